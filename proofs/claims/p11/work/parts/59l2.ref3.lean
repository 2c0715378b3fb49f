section
variable {l : Launch} {G : qG} {gh : zGh}
def p_X9_stands : List Nat := [0, 12, 14, 18, 25, 34, 37, 43]
noncomputable def b_X9_stands_0 : zBl := fun jp K => oIld 1 <| oInt 2147483648 <| oAld 0 <| oGetI 9 58 <| oCs 3 f_X9_in <| oIf zne zeq (jp 2) (jp 1)
theorem s_X9_stands_0 (d : Nat) (hG : zGood gh) : zPb l G gh (d + 8) n_X9_stands p_X9_stands 0 b_X9_stands_0 := fun K jp hj =>
    z_iload_n (n := 1) (i := 1) (zd (i := .iload_n 1) (n := 1) (by decide +kernel)) rfl <|
    z_iconst (n := 0) (zd (i := .iconst (0)) (n := 1) (by decide +kernel)) (by decide +kernel) <|
    z_aload_n (n := 0) (i := 0) (zd (i := .aload_n 0) (n := 1) (by decide +kernel)) rfl <|
    z_getI (ci := 9) (j := 58) (idx := 251) (zd (i := .getfield 251) (n := 3) (by decide +kernel)) (by decide +kernel) (by decide +kernel) rfl g1186 <|
    z_callS (idx := 304) (N := n_X9_in) (zd (i := .invokestatic 304) (n := 3) (by decide +kernel)) to_X9_in g1442 g1443 rfl rfl (c_X9_in (l := l) (G := G) (gh := gh) (d + 6)) <|
    z_if_ne (off := 5) (tgt := 14) (zd (i := .ifCond .ne (5)) (n := 3) (by decide +kernel)) (by decide +kernel) (zj (hj 2) (by decide +kernel)) (zj (hj 1) (by decide +kernel))
noncomputable def b_X9_stands_1 : zBl := fun jp K => oInt 2147483647 <| oIret K
theorem s_X9_stands_1 (d : Nat) (hG : zGood gh) : zPb l G gh (d + 8) n_X9_stands p_X9_stands 12 b_X9_stands_1 := fun K jp hj =>
    z_iconst (n := -1) (zd (i := .iconst (-1)) (n := 1) (by decide +kernel)) (by decide +kernel) <|
    z_iret (zd (i := .ireturn) (n := 1) (by decide +kernel)) rfl
noncomputable def b_X9_stands_2 : zBl := fun jp K => oInt 2147483648 <| oIst 2 <| oInt 2147483648 <| oIst 3 <| jp 3
theorem s_X9_stands_2 (d : Nat) (hG : zGood gh) : zPb l G gh (d + 8) n_X9_stands p_X9_stands 14 b_X9_stands_2 := fun K jp hj =>
    z_iconst (n := 0) (zd (i := .iconst (0)) (n := 1) (by decide +kernel)) (by decide +kernel) <|
    z_istore_n (n := 2) (i := 2) (zd (i := .istore_n 2) (n := 1) (by decide +kernel)) rfl (by decide +kernel) <|
    z_iconst (n := 0) (zd (i := .iconst (0)) (n := 1) (by decide +kernel)) (by decide +kernel) <|
    z_istore_n (n := 3) (i := 3) (zd (i := .istore_n 3) (n := 1) (by decide +kernel)) rfl (by decide +kernel) <|
    (zj (hj 3) (by decide +kernel))
noncomputable def b_X9_stands_3 : zBl := fun jp K => oNLC 3 2147483828 zgeN zltN zn1_ge zn1_lt (jp 7) (jp 4)
theorem s_X9_stands_3 (d : Nat) (hG : zGood gh) : zPb l G gh (d + 8) n_X9_stands p_X9_stands 18 b_X9_stands_3 := fun K jp hj =>
    z_nLC_ge (i := 3) (c0 := 2147483828) (a1 := 1) (a2 := 3) (off := 21) (tgt := 43) (zLd_n (n := 3) (i := 3) (zd (i := .iload_n 3) (n := 1) (by decide +kernel)) rfl) (zCn_s (n := 180) (zd (i := .sipush (180)) (n := 3) (by decide +kernel)) (by decide +kernel)) (zd (i := .if_icmp .ge (21)) (n := 3) (by decide +kernel)) (by decide +kernel) (zj (hj 7) (by decide +kernel)) (zj (hj 4) (by decide +kernel))
noncomputable def b_X9_stands_4 : zBl := fun jp K => oAld 0 <| oIld 3 <| oIld 1 <| oCv 9 2 gs_X9_isSo <| oIf zeq zne (jp 6) (jp 5)
theorem s_X9_stands_4 (d : Nat) (hG : zGood gh) : zPb l G gh (d + 8) n_X9_stands p_X9_stands 25 b_X9_stands_4 := fun K jp hj =>
    z_aload_n (n := 0) (i := 0) (zd (i := .aload_n 0) (n := 1) (by decide +kernel)) rfl <|
    z_iload_n (n := 3) (i := 3) (zd (i := .iload_n 3) (n := 1) (by decide +kernel)) rfl <|
    z_iload_n (n := 1) (i := 1) (zd (i := .iload_n 1) (n := 1) (by decide +kernel)) rfl <|
    z_callV (idx := 428) (ci := 9) (N := n_X9_isSo) (zd (i := .invokevirtual 428) (n := 3) (by decide +kernel)) to_X9_isSo g1685 g1687 g94 (by decide +kernel) rfl rfl rfl (cs_X9_isSo (l := l) (G := G) (gh := gh) (d) hG) <|
    z_if_eq (off := 6) (tgt := 37) (zd (i := .ifCond .eq (6)) (n := 3) (by decide +kernel)) (by decide +kernel) (zj (hj 6) (by decide +kernel)) (zj (hj 5) (by decide +kernel))
noncomputable def b_X9_stands_5 : zBl := fun jp K => oInc 2 2147483649 <| jp 6
theorem s_X9_stands_5 (d : Nat) (hG : zGood gh) : zPb l G gh (d + 8) n_X9_stands p_X9_stands 34 b_X9_stands_5 := fun K jp hj =>
    z_iinc (i := 2) (n := 1) (zd (i := .iinc 2 (1)) (n := 3) (by decide +kernel)) (by decide +kernel) (by decide +kernel) <|
    (zj (hj 6) (by decide +kernel))
noncomputable def b_X9_stands_6 : zBl := fun jp K => oInc 3 2147483649 <| jp 3
theorem s_X9_stands_6 (d : Nat) (hG : zGood gh) : zPb l G gh (d + 8) n_X9_stands p_X9_stands 37 b_X9_stands_6 := fun K jp hj =>
    z_iinc (i := 3) (n := 1) (zd (i := .iinc 3 (1)) (n := 3) (by decide +kernel)) (by decide +kernel) (by decide +kernel) <|
    z_goto (off := -22) (tgt := 18) (zd (i := .goto (-22)) (n := 3) (by decide +kernel)) (by decide +kernel) (zj (hj 3) (by decide +kernel))
noncomputable def b_X9_stands_7 : zBl := fun jp K => oIld 2 <| oIret K
theorem s_X9_stands_7 (d : Nat) (hG : zGood gh) : zPb l G gh (d + 8) n_X9_stands p_X9_stands 43 b_X9_stands_7 := fun K jp hj =>
    z_iload_n (n := 2) (i := 2) (zd (i := .iload_n 2) (n := 1) (by decide +kernel)) rfl <|
    z_iret (zd (i := .ireturn) (n := 1) (by decide +kernel)) rfl
noncomputable def t_X9_stands : List zBl := [b_X9_stands_0, b_X9_stands_1, b_X9_stands_2, b_X9_stands_3, b_X9_stands_4, b_X9_stands_5, b_X9_stands_6, b_X9_stands_7]
theorem tt_X9_stands (d : Nat) (hG : zGood gh) : zT (zPb l G gh (d + 8) n_X9_stands p_X9_stands) t_X9_stands p_X9_stands := ⟨s_X9_stands_0 d hG, s_X9_stands_1 d hG, s_X9_stands_2 d hG, s_X9_stands_3 d hG, s_X9_stands_4 d hG, s_X9_stands_5 d hG, s_X9_stands_6 d hG, s_X9_stands_7 d hG, trivial⟩
def q_X9_stands_0 : List (Nat × Nat) := [(292, zk102), (321, zk3), (322, zk116), (323, zk104), (330, zk7), (331, zk7), (332, zk7)]
noncomputable def al_X9_stands_0 : zAq := [(some (.inl 8589934591), [(292, zk105), (321, zk4), (322, zk117), (323, zk104), (330, zk7), (331, zk7), (332, zk7)])]
def mq_X9_stands_0_1 : List (Nat × Nat) := [(292, zk105), (321, zk4), (322, zk117), (323, zk104), (330, zk7), (331, zk7), (332, zk7)]
noncomputable def fm_X9_stands_0 : List zFm := [(0, [], (fun vs => [.inr (.ref 292), .inl 9223372043297226772]), (fun vs => zP q_X9_stands_0), (fun vs => Nat.sub (Nat.add 181 0) 0)),
  (3, [(3, 2147483648, 2147483828)], (fun vs => [.inr (.ref 292), .inl 9223372043297226772, .inl 8589934591, .inl (zn 0 vs 0)]), (fun vs => zP mq_X9_stands_0_1), (fun vs => Nat.sub (Nat.add 2147483828 0) (Nat.add 0 (Nat.mul 1 (zn 0 vs 0)))))]
def bf_X9_stands_0 : List Nat := [0, 0, 0, 2]
theorem r_X9_stands_0_0 : zbox [] (fun vs => zFrun (zpost (zAlq al_X9_stands_0)) 1000 t_X9_stands fm_X9_stands_0 bf_X9_stands_0 (0, vs)) = true := by decide +kernel
theorem r_X9_stands_0_1 : zbox [(3, 2147483648, 2147483828)] (fun vs => zFrun (zpost (zAlq al_X9_stands_0)) 1000 t_X9_stands fm_X9_stands_0 bf_X9_stands_0 (1, vs)) = true := by decide +kernel
set_option maxRecDepth 100000 in
theorem x_X9_stands_0 (d : Nat) (hG : zGood gh) : zS l G gh (d + 8) (zpost (zAlq al_X9_stands_0)) n_X9_stands (zn 0 p_X9_stands 0) (zwc (0, [.inr (.ref 292), .inl 9223372043297226772], zP q_X9_stands_0) 0) := zentry (tt_X9_stands d hG) fm_X9_stands_0 bf_X9_stands_0 1000 (by decide +kernel) rfl ⟨Nat.zero_lt_succ _, trivial⟩ (fun f hf => match f, hf with
  | 0, _ => fun vs hv => (zbox_t r_X9_stands_0_0) vs hv
  | 1, _ => fun vs hv => (zbox_t r_X9_stands_0_1) vs hv
  | f + 2, h => absurd (show f + 2 < 2 from h) (Nat.not_lt.mpr (Nat.le_add_left 2 f)))
noncomputable def gs_X9_stands_0 : zMt := zgq true zUN 4 [.inr (.ref 292), .inl 9223372043297226772] q_X9_stands_0 al_X9_stands_0
set_option maxRecDepth 100000 in
theorem cs_X9_stands_0 (d : Nat) (hG : zGood gh) : zC l G gh (d + 8) n_X9_stands gs_X9_stands_0 := zgq_ok zGood_ok (pcs := p_X9_stands) (by decide) rfl rfl (fun a ha => by simp only [al_X9_stands_0, List.mem_cons, List.not_mem_nil, or_false] at ha; rcases ha with rfl <;> decide +kernel) (fun gh hG => x_X9_stands_0 d hG) (by decide +kernel) hG
def q_X9_stands_1 : List (Nat × Nat) := [(292, zk102)]
noncomputable def al_X9_stands_1 : zAq := [(some (.inl 2147483647), [(292, zk102)])]
noncomputable def fm_X9_stands_1 : List zFm := [(0, [], (fun vs => [.inr (.ref 292), .inl 6442450943]), (fun vs => zP q_X9_stands_1), (fun vs => Nat.sub (Nat.add 0 0) 0))]
def bf_X9_stands_1 : List Nat := []
theorem r_X9_stands_1_0 : zbox [] (fun vs => zFrun (zpost (zAlq al_X9_stands_1)) 1000 t_X9_stands fm_X9_stands_1 bf_X9_stands_1 (0, vs)) = true := by decide +kernel
set_option maxRecDepth 100000 in
theorem x_X9_stands_1 (d : Nat) (hG : zGood gh) : zS l G gh (d + 8) (zpost (zAlq al_X9_stands_1)) n_X9_stands (zn 0 p_X9_stands 0) (zwc (0, [.inr (.ref 292), .inl 6442450943], zP q_X9_stands_1) 0) := zentry (tt_X9_stands d hG) fm_X9_stands_1 bf_X9_stands_1 1000 (by decide +kernel) rfl ⟨Nat.zero_lt_succ _, trivial⟩ (fun f hf => match f, hf with
  | 0, _ => fun vs hv => (zbox_t r_X9_stands_1_0) vs hv
  | f + 1, h => absurd (show f + 1 < 1 from h) (Nat.not_lt.mpr (Nat.le_add_left 1 f)))
noncomputable def gs_X9_stands_1 : zMt := zgq true zUN 4 [.inr (.ref 292), .inl 6442450943] q_X9_stands_1 al_X9_stands_1
set_option maxRecDepth 100000 in
theorem cs_X9_stands_1 (d : Nat) (hG : zGood gh) : zC l G gh (d + 8) n_X9_stands gs_X9_stands_1 := zgq_ok zGood_ok (pcs := p_X9_stands) (by decide) rfl rfl (fun a ha => by simp only [al_X9_stands_1, List.mem_cons, List.not_mem_nil, or_false] at ha; rcases ha with rfl <;> decide +kernel) (fun gh hG => x_X9_stands_1 d hG) (by decide +kernel) hG
def q_X9_stands_2 : List (Nat × Nat) := [(292, zk102)]
noncomputable def al_X9_stands_2 : zAq := [(some (.inl 2147483647), [(292, zk102)])]
noncomputable def fm_X9_stands_2 : List zFm := [(0, [], (fun vs => [.inr (.ref 292), .inl 9223372135639023615]), (fun vs => zP q_X9_stands_2), (fun vs => Nat.sub (Nat.add 0 0) 0))]
def bf_X9_stands_2 : List Nat := []
theorem r_X9_stands_2_0 : zbox [] (fun vs => zFrun (zpost (zAlq al_X9_stands_2)) 1000 t_X9_stands fm_X9_stands_2 bf_X9_stands_2 (0, vs)) = true := by decide +kernel
set_option maxRecDepth 100000 in
theorem x_X9_stands_2 (d : Nat) (hG : zGood gh) : zS l G gh (d + 8) (zpost (zAlq al_X9_stands_2)) n_X9_stands (zn 0 p_X9_stands 0) (zwc (0, [.inr (.ref 292), .inl 9223372135639023615], zP q_X9_stands_2) 0) := zentry (tt_X9_stands d hG) fm_X9_stands_2 bf_X9_stands_2 1000 (by decide +kernel) rfl ⟨Nat.zero_lt_succ _, trivial⟩ (fun f hf => match f, hf with
  | 0, _ => fun vs hv => (zbox_t r_X9_stands_2_0) vs hv
  | f + 1, h => absurd (show f + 1 < 1 from h) (Nat.not_lt.mpr (Nat.le_add_left 1 f)))
noncomputable def gs_X9_stands_2 : zMt := zgq true zUN 4 [.inr (.ref 292), .inl 9223372135639023615] q_X9_stands_2 al_X9_stands_2
set_option maxRecDepth 100000 in
theorem cs_X9_stands_2 (d : Nat) (hG : zGood gh) : zC l G gh (d + 8) n_X9_stands gs_X9_stands_2 := zgq_ok zGood_ok (pcs := p_X9_stands) (by decide) rfl rfl (fun a ha => by simp only [al_X9_stands_2, List.mem_cons, List.not_mem_nil, or_false] at ha; rcases ha with rfl <;> decide +kernel) (fun gh hG => x_X9_stands_2 d hG) (by decide +kernel) hG
noncomputable def gs_X9_stands : zMt := (zor gs_X9_stands_0 (zor gs_X9_stands_1 gs_X9_stands_2))
theorem cs_X9_stands (d : Nat) (hG : zGood gh) : zC l G gh (d + 8) n_X9_stands gs_X9_stands := (zor_ok (cs_X9_stands_0 d hG) (zor_ok (cs_X9_stands_1 d hG) (cs_X9_stands_2 d hG)))
def p_X9_sure : List Nat := [0, 12, 21, 23, 29, 37, 47, 50, 54, 62, 69, 75, 81, 84, 87, 93]
noncomputable def b_X9_sure_0 : zBl := fun jp K => oIld 1 <| oInt 2147483648 <| oAld 0 <| oGetI 9 58 <| oCs 3 f_X9_in <| oIf zeq zne (jp 2) (jp 1)
theorem s_X9_sure_0 (d : Nat) (hG : zGood gh) : zPb l G gh (d + 8) n_X9_sure p_X9_sure 0 b_X9_sure_0 := fun K jp hj =>
    z_iload_n (n := 1) (i := 1) (zd (i := .iload_n 1) (n := 1) (by decide +kernel)) rfl <|
    z_iconst (n := 0) (zd (i := .iconst (0)) (n := 1) (by decide +kernel)) (by decide +kernel) <|
    z_aload_n (n := 0) (i := 0) (zd (i := .aload_n 0) (n := 1) (by decide +kernel)) rfl <|
    z_getI (ci := 9) (j := 58) (idx := 251) (zd (i := .getfield 251) (n := 3) (by decide +kernel)) (by decide +kernel) (by decide +kernel) rfl g1186 <|
    z_callS (idx := 304) (N := n_X9_in) (zd (i := .invokestatic 304) (n := 3) (by decide +kernel)) to_X9_in g1442 g1443 rfl rfl (c_X9_in (l := l) (G := G) (gh := gh) (d + 6)) <|
    z_if_eq (off := 12) (tgt := 21) (zd (i := .ifCond .eq (12)) (n := 3) (by decide +kernel)) (by decide +kernel) (zj (hj 2) (by decide +kernel)) (zj (hj 1) (by decide +kernel))
noncomputable def b_X9_sure_1 : zBl := fun jp K => oIld 2 <| oInt 2147483648 <| oInt 2147483649 <| oCs 3 f_X9_in <| oIf zne zeq (jp 3) (jp 2)
theorem s_X9_sure_1 (d : Nat) (hG : zGood gh) : zPb l G gh (d + 8) n_X9_sure p_X9_sure 12 b_X9_sure_1 := fun K jp hj =>
    z_iload_n (n := 2) (i := 2) (zd (i := .iload_n 2) (n := 1) (by decide +kernel)) rfl <|
    z_iconst (n := 0) (zd (i := .iconst (0)) (n := 1) (by decide +kernel)) (by decide +kernel) <|
    z_iconst (n := 1) (zd (i := .iconst (1)) (n := 1) (by decide +kernel)) (by decide +kernel) <|
    z_callS (idx := 304) (N := n_X9_in) (zd (i := .invokestatic 304) (n := 3) (by decide +kernel)) to_X9_in g1442 g1443 rfl rfl (c_X9_in (l := l) (G := G) (gh := gh) (d + 6)) <|
    z_if_ne (off := 5) (tgt := 23) (zd (i := .ifCond .ne (5)) (n := 3) (by decide +kernel)) (by decide +kernel) (zj (hj 3) (by decide +kernel)) (zj (hj 2) (by decide +kernel))
noncomputable def b_X9_sure_2 : zBl := fun jp K => oInt 2147483647 <| oIret K
theorem s_X9_sure_2 (d : Nat) (hG : zGood gh) : zPb l G gh (d + 8) n_X9_sure p_X9_sure 21 b_X9_sure_2 := fun K jp hj =>
    z_iconst (n := -1) (zd (i := .iconst (-1)) (n := 1) (by decide +kernel)) (by decide +kernel) <|
    z_iret (zd (i := .ireturn) (n := 1) (by decide +kernel)) rfl
noncomputable def b_X9_sure_3 : zBl := fun jp K => oInt 2147483646 <| oIst 3 <| oInt 2147483648 <| oIst 4 <| jp 4
theorem s_X9_sure_3 (d : Nat) (hG : zGood gh) : zPb l G gh (d + 8) n_X9_sure p_X9_sure 23 b_X9_sure_3 := fun K jp hj =>
    z_bipush (n := -2) (zd (i := .bipush (-2)) (n := 2) (by decide +kernel)) (by decide +kernel) <|
    z_istore_n (n := 3) (i := 3) (zd (i := .istore_n 3) (n := 1) (by decide +kernel)) rfl (by decide +kernel) <|
    z_iconst (n := 0) (zd (i := .iconst (0)) (n := 1) (by decide +kernel)) (by decide +kernel) <|
    z_istore (i := 4) (zd (i := .istore 4) (n := 2) (by decide +kernel)) (by decide +kernel) <|
    (zj (hj 4) (by decide +kernel))
noncomputable def b_X9_sure_4 : zBl := fun jp K => oNLC 4 2147483828 zgeN zltN zn1_ge zn1_lt (jp 15) (jp 5)
theorem s_X9_sure_4 (d : Nat) (hG : zGood gh) : zPb l G gh (d + 8) n_X9_sure p_X9_sure 29 b_X9_sure_4 := fun K jp hj =>
    z_nLC_ge (i := 4) (c0 := 2147483828) (a1 := 2) (a2 := 3) (off := 59) (tgt := 93) (zLd_w (i := 4) (zd (i := .iload 4) (n := 2) (by decide +kernel))) (zCn_s (n := 180) (zd (i := .sipush (180)) (n := 3) (by decide +kernel)) (by decide +kernel)) (zd (i := .if_icmp .ge (59)) (n := 3) (by decide +kernel)) (by decide +kernel) (zj (hj 15) (by decide +kernel)) (zj (hj 5) (by decide +kernel))
noncomputable def b_X9_sure_5 : zBl := fun jp K => oAld 0 <| oIld 4 <| oIld 1 <| oCv 9 2 gs_X9_isSo <| oIf zne zeq (jp 7) (jp 6)
theorem s_X9_sure_5 (d : Nat) (hG : zGood gh) : zPb l G gh (d + 8) n_X9_sure p_X9_sure 37 b_X9_sure_5 := fun K jp hj =>
    z_aload_n (n := 0) (i := 0) (zd (i := .aload_n 0) (n := 1) (by decide +kernel)) rfl <|
    z_iload (i := 4) (zd (i := .iload 4) (n := 2) (by decide +kernel)) <|
    z_iload_n (n := 1) (i := 1) (zd (i := .iload_n 1) (n := 1) (by decide +kernel)) rfl <|
    z_callV (idx := 428) (ci := 9) (N := n_X9_isSo) (zd (i := .invokevirtual 428) (n := 3) (by decide +kernel)) to_X9_isSo g1685 g1687 g94 (by decide +kernel) rfl rfl rfl (cs_X9_isSo (l := l) (G := G) (gh := gh) (d) hG) <|
    z_if_ne (off := 6) (tgt := 50) (zd (i := .ifCond .ne (6)) (n := 3) (by decide +kernel)) (by decide +kernel) (zj (hj 7) (by decide +kernel)) (zj (hj 6) (by decide +kernel))
noncomputable def b_X9_sure_6 : zBl := fun jp K => jp 14
theorem s_X9_sure_6 (d : Nat) (hG : zGood gh) : zPb l G gh (d + 8) n_X9_sure p_X9_sure 47 b_X9_sure_6 := fun K jp hj =>
    z_goto (off := 40) (tgt := 87) (zd (i := .goto (40)) (n := 3) (by decide +kernel)) (by decide +kernel) (zj (hj 14) (by decide +kernel))
noncomputable def b_X9_sure_7 : zBl := fun jp K => oNLC 2 2147483648 zneN zeqN zn1_ne zn1_eq (jp 9) (jp 8)
theorem s_X9_sure_7 (d : Nat) (hG : zGood gh) : zPb l G gh (d + 8) n_X9_sure p_X9_sure 50 b_X9_sure_7 := fun K jp hj =>
    z_nL0_ne (i := 2) (a1 := 1) (off := 11) (tgt := 62) (zLd_n (n := 2) (i := 2) (zd (i := .iload_n 2) (n := 1) (by decide +kernel)) rfl) (zd (i := .ifCond .ne (11)) (n := 3) (by decide +kernel)) (by decide +kernel) (zj (hj 9) (by decide +kernel)) (zj (hj 8) (by decide +kernel))
noncomputable def b_X9_sure_8 : zBl := fun jp K => oIld 4 <| oInt 2147483657 <| oB2z zidiv <| jp 10
theorem s_X9_sure_8 (d : Nat) (hG : zGood gh) : zPb l G gh (d + 8) n_X9_sure p_X9_sure 54 b_X9_sure_8 := fun K jp hj =>
    z_iload (i := 4) (zd (i := .iload 4) (n := 2) (by decide +kernel)) <|
    z_bipush (n := 9) (zd (i := .bipush (9)) (n := 2) (by decide +kernel)) (by decide +kernel) <|
    z_idiv (zd (i := .idiv) (n := 1) (by decide +kernel)) <|
    z_goto (off := 10) (tgt := 69) (zd (i := .goto (10)) (n := 3) (by decide +kernel)) (by decide +kernel) (zj (hj 10) (by decide +kernel))
noncomputable def b_X9_sure_9 : zBl := fun jp K => oIld 4 <| oInt 2147483657 <| oB2z zirem <| oInt 2147483649 <| oB2 zadd <| jp 10
theorem s_X9_sure_9 (d : Nat) (hG : zGood gh) : zPb l G gh (d + 8) n_X9_sure p_X9_sure 62 b_X9_sure_9 := fun K jp hj =>
    z_iload (i := 4) (zd (i := .iload 4) (n := 2) (by decide +kernel)) <|
    z_bipush (n := 9) (zd (i := .bipush (9)) (n := 2) (by decide +kernel)) (by decide +kernel) <|
    z_irem (zd (i := .irem) (n := 1) (by decide +kernel)) <|
    z_iconst (n := 1) (zd (i := .iconst (1)) (n := 1) (by decide +kernel)) (by decide +kernel) <|
    z_iadd (zd (i := .iadd) (n := 1) (by decide +kernel)) <|
    (zj (hj 10) (by decide +kernel))
noncomputable def b_X9_sure_10 : zBl := fun jp K => oIst 5 <| oNLC 3 2147483648 zltN zgeN zn1_lt zn1_ge (jp 13) (jp 11)
theorem s_X9_sure_10 (d : Nat) (hG : zGood gh) : zPb l G gh (d + 8) n_X9_sure p_X9_sure 69 b_X9_sure_10 := fun K jp hj =>
    z_istore (i := 5) (zd (i := .istore 5) (n := 2) (by decide +kernel)) (by decide +kernel) <|
    z_nL0_lt (i := 3) (a1 := 1) (off := 12) (tgt := 84) (zLd_n (n := 3) (i := 3) (zd (i := .iload_n 3) (n := 1) (by decide +kernel)) rfl) (zd (i := .ifCond .lt (12)) (n := 3) (by decide +kernel)) (by decide +kernel) (zj (hj 13) (by decide +kernel)) (zj (hj 11) (by decide +kernel))
noncomputable def b_X9_sure_11 : zBl := fun jp K => oNLL 3 5 zeqN zneN zn1_eq zn2_eq zn1_ne zn2_ne (jp 13) (jp 12)
theorem s_X9_sure_11 (d : Nat) (hG : zGood gh) : zPb l G gh (d + 8) n_X9_sure p_X9_sure 75 b_X9_sure_11 := fun K jp hj =>
    z_nLL_eq (i := 3) (j := 5) (a1 := 1) (a2 := 2) (off := 6) (tgt := 84) (zLd_n (n := 3) (i := 3) (zd (i := .iload_n 3) (n := 1) (by decide +kernel)) rfl) (zLd_w (i := 5) (zd (i := .iload 5) (n := 2) (by decide +kernel))) (zd (i := .if_icmp .eq (6)) (n := 3) (by decide +kernel)) (by decide +kernel) (zj (hj 13) (by decide +kernel)) (zj (hj 12) (by decide +kernel))
noncomputable def b_X9_sure_12 : zBl := fun jp K => oInt 2147483646 <| oIret K
theorem s_X9_sure_12 (d : Nat) (hG : zGood gh) : zPb l G gh (d + 8) n_X9_sure p_X9_sure 81 b_X9_sure_12 := fun K jp hj =>
    z_bipush (n := -2) (zd (i := .bipush (-2)) (n := 2) (by decide +kernel)) (by decide +kernel) <|
    z_iret (zd (i := .ireturn) (n := 1) (by decide +kernel)) rfl
noncomputable def b_X9_sure_13 : zBl := fun jp K => oIld 5 <| oIst 3 <| jp 14
theorem s_X9_sure_13 (d : Nat) (hG : zGood gh) : zPb l G gh (d + 8) n_X9_sure p_X9_sure 84 b_X9_sure_13 := fun K jp hj =>
    z_iload (i := 5) (zd (i := .iload 5) (n := 2) (by decide +kernel)) <|
    z_istore_n (n := 3) (i := 3) (zd (i := .istore_n 3) (n := 1) (by decide +kernel)) rfl (by decide +kernel) <|
    (zj (hj 14) (by decide +kernel))
noncomputable def b_X9_sure_14 : zBl := fun jp K => oInc 4 2147483649 <| jp 4
theorem s_X9_sure_14 (d : Nat) (hG : zGood gh) : zPb l G gh (d + 8) n_X9_sure p_X9_sure 87 b_X9_sure_14 := fun K jp hj =>
    z_iinc (i := 4) (n := 1) (zd (i := .iinc 4 (1)) (n := 3) (by decide +kernel)) (by decide +kernel) (by decide +kernel) <|
    z_goto (off := -61) (tgt := 29) (zd (i := .goto (-61)) (n := 3) (by decide +kernel)) (by decide +kernel) (zj (hj 4) (by decide +kernel))
noncomputable def b_X9_sure_15 : zBl := fun jp K => oIld 3 <| oIret K
theorem s_X9_sure_15 (d : Nat) (hG : zGood gh) : zPb l G gh (d + 8) n_X9_sure p_X9_sure 93 b_X9_sure_15 := fun K jp hj =>
    z_iload_n (n := 3) (i := 3) (zd (i := .iload_n 3) (n := 1) (by decide +kernel)) rfl <|
    z_iret (zd (i := .ireturn) (n := 1) (by decide +kernel)) rfl
noncomputable def t_X9_sure : List zBl := [b_X9_sure_0, b_X9_sure_1, b_X9_sure_2, b_X9_sure_3, b_X9_sure_4, b_X9_sure_5, b_X9_sure_6, b_X9_sure_7, b_X9_sure_8, b_X9_sure_9, b_X9_sure_10, b_X9_sure_11, b_X9_sure_12, b_X9_sure_13, b_X9_sure_14, b_X9_sure_15]
theorem tt_X9_sure (d : Nat) (hG : zGood gh) : zT (zPb l G gh (d + 8) n_X9_sure p_X9_sure) t_X9_sure p_X9_sure := ⟨s_X9_sure_0 d hG, s_X9_sure_1 d hG, s_X9_sure_2 d hG, s_X9_sure_3 d hG, s_X9_sure_4 d hG, s_X9_sure_5 d hG, s_X9_sure_6 d hG, s_X9_sure_7 d hG, s_X9_sure_8 d hG, s_X9_sure_9 d hG, s_X9_sure_10 d hG, s_X9_sure_11 d hG, s_X9_sure_12 d hG, s_X9_sure_13 d hG, s_X9_sure_14 d hG, s_X9_sure_15 d hG, trivial⟩
def q_X9_sure_0 : List (Nat × Nat) := [(292, zk102), (321, zk3), (322, zk116), (323, zk104), (330, zk7), (331, zk7), (332, zk7)]
noncomputable def al_X9_sure_0 : zAq := [(some (.inl 9223372034707292179), [(292, zk105), (321, zk4), (322, zk117), (323, zk104), (330, zk7), (331, zk7), (332, zk7)])]
def mq_X9_sure_0_1 : List (Nat × Nat) := [(292, zk105), (321, zk4), (322, zk117), (323, zk104), (330, zk7), (331, zk7), (332, zk7)]
noncomputable def fm_X9_sure_0 : List zFm := [(0, [], (fun vs => [.inr (.ref 292), .inl 9223372043297226772, .inl 2147483648]), (fun vs => zP q_X9_sure_0), (fun vs => Nat.sub (Nat.add 181 0) 0)),
  (4, [(4, 2147483648, 2147483828)], (fun vs => [.inr (.ref 292), .inl 9223372043297226772, .inl 2147483648, .inl 9223372034707292179, .inl (zn 0 vs 0)]), (fun vs => zP mq_X9_sure_0_1), (fun vs => Nat.sub (Nat.add 2147483828 0) (Nat.add 0 (Nat.mul 1 (zn 0 vs 0)))))]
def bf_X9_sure_0 : List Nat := [0, 0, 0, 0, 2]
theorem r_X9_sure_0_0 : zbox [] (fun vs => zFrun (zpost (zAlq al_X9_sure_0)) 1000 t_X9_sure fm_X9_sure_0 bf_X9_sure_0 (0, vs)) = true := by decide +kernel
theorem r_X9_sure_0_1 : zbox [(4, 2147483648, 2147483828)] (fun vs => zFrun (zpost (zAlq al_X9_sure_0)) 1000 t_X9_sure fm_X9_sure_0 bf_X9_sure_0 (1, vs)) = true := by decide +kernel
set_option maxRecDepth 100000 in
theorem x_X9_sure_0 (d : Nat) (hG : zGood gh) : zS l G gh (d + 8) (zpost (zAlq al_X9_sure_0)) n_X9_sure (zn 0 p_X9_sure 0) (zwc (0, [.inr (.ref 292), .inl 9223372043297226772, .inl 2147483648], zP q_X9_sure_0) 0) := zentry (tt_X9_sure d hG) fm_X9_sure_0 bf_X9_sure_0 1000 (by decide +kernel) rfl ⟨Nat.zero_lt_succ _, trivial⟩ (fun f hf => match f, hf with
  | 0, _ => fun vs hv => (zbox_t r_X9_sure_0_0) vs hv
  | 1, _ => fun vs hv => (zbox_t r_X9_sure_0_1) vs hv
  | f + 2, h => absurd (show f + 2 < 2 from h) (Nat.not_lt.mpr (Nat.le_add_left 2 f)))
noncomputable def gs_X9_sure_0 : zMt := zgq true zUN 6 [.inr (.ref 292), .inl 9223372043297226772, .inl 2147483648] q_X9_sure_0 al_X9_sure_0
set_option maxRecDepth 100000 in
theorem cs_X9_sure_0 (d : Nat) (hG : zGood gh) : zC l G gh (d + 8) n_X9_sure gs_X9_sure_0 := zgq_ok zGood_ok (pcs := p_X9_sure) (by decide) rfl rfl (fun a ha => by simp only [al_X9_sure_0, List.mem_cons, List.not_mem_nil, or_false] at ha; rcases ha with rfl <;> decide +kernel) (fun gh hG => x_X9_sure_0 d hG) (by decide +kernel) hG
def q_X9_sure_1 : List (Nat × Nat) := [(292, zk102), (321, zk3), (322, zk116), (323, zk104), (330, zk7), (331, zk7), (332, zk7)]
noncomputable def al_X9_sure_1 : zAq := [(some (.inl 9223372034707292169), [(292, zk105), (321, zk4), (322, zk117), (323, zk104), (330, zk7), (331, zk7), (332, zk7)])]
def mq_X9_sure_1_1 : List (Nat × Nat) := [(292, zk105), (321, zk4), (322, zk117), (323, zk104), (330, zk7), (331, zk7), (332, zk7)]
noncomputable def fm_X9_sure_1 : List zFm := [(0, [], (fun vs => [.inr (.ref 292), .inl 9223372043297226772, .inl 2147483649]), (fun vs => zP q_X9_sure_1), (fun vs => Nat.sub (Nat.add 181 0) 0)),
  (4, [(4, 2147483648, 2147483828)], (fun vs => [.inr (.ref 292), .inl 9223372043297226772, .inl 2147483649, .inl 9223372034707292169, .inl (zn 0 vs 0)]), (fun vs => zP mq_X9_sure_1_1), (fun vs => Nat.sub (Nat.add 2147483828 0) (Nat.add 0 (Nat.mul 1 (zn 0 vs 0)))))]
def bf_X9_sure_1 : List Nat := [0, 0, 0, 0, 2]
theorem r_X9_sure_1_0 : zbox [] (fun vs => zFrun (zpost (zAlq al_X9_sure_1)) 1000 t_X9_sure fm_X9_sure_1 bf_X9_sure_1 (0, vs)) = true := by decide +kernel
theorem r_X9_sure_1_1 : zbox [(4, 2147483648, 2147483828)] (fun vs => zFrun (zpost (zAlq al_X9_sure_1)) 1000 t_X9_sure fm_X9_sure_1 bf_X9_sure_1 (1, vs)) = true := by decide +kernel
set_option maxRecDepth 100000 in
theorem x_X9_sure_1 (d : Nat) (hG : zGood gh) : zS l G gh (d + 8) (zpost (zAlq al_X9_sure_1)) n_X9_sure (zn 0 p_X9_sure 0) (zwc (0, [.inr (.ref 292), .inl 9223372043297226772, .inl 2147483649], zP q_X9_sure_1) 0) := zentry (tt_X9_sure d hG) fm_X9_sure_1 bf_X9_sure_1 1000 (by decide +kernel) rfl ⟨Nat.zero_lt_succ _, trivial⟩ (fun f hf => match f, hf with
  | 0, _ => fun vs hv => (zbox_t r_X9_sure_1_0) vs hv
  | 1, _ => fun vs hv => (zbox_t r_X9_sure_1_1) vs hv
  | f + 2, h => absurd (show f + 2 < 2 from h) (Nat.not_lt.mpr (Nat.le_add_left 2 f)))
noncomputable def gs_X9_sure_1 : zMt := zgq true zUN 6 [.inr (.ref 292), .inl 9223372043297226772, .inl 2147483649] q_X9_sure_1 al_X9_sure_1
set_option maxRecDepth 100000 in
theorem cs_X9_sure_1 (d : Nat) (hG : zGood gh) : zC l G gh (d + 8) n_X9_sure gs_X9_sure_1 := zgq_ok zGood_ok (pcs := p_X9_sure) (by decide) rfl rfl (fun a ha => by simp only [al_X9_sure_1, List.mem_cons, List.not_mem_nil, or_false] at ha; rcases ha with rfl <;> decide +kernel) (fun gh hG => x_X9_sure_1 d hG) (by decide +kernel) hG
def q_X9_sure_2 : List (Nat × Nat) := [(292, zk102)]
noncomputable def al_X9_sure_2 : zAq := [(some (.inl 2147483647), [(292, zk102)])]
noncomputable def fm_X9_sure_2 : List zFm := [(0, [], (fun vs => [.inr (.ref 292), .inl 9223372043297226772, .inl 6442450943]), (fun vs => zP q_X9_sure_2), (fun vs => Nat.sub (Nat.add 0 0) 0))]
def bf_X9_sure_2 : List Nat := []
theorem r_X9_sure_2_0 : zbox [] (fun vs => zFrun (zpost (zAlq al_X9_sure_2)) 1000 t_X9_sure fm_X9_sure_2 bf_X9_sure_2 (0, vs)) = true := by decide +kernel
set_option maxRecDepth 100000 in
theorem x_X9_sure_2 (d : Nat) (hG : zGood gh) : zS l G gh (d + 8) (zpost (zAlq al_X9_sure_2)) n_X9_sure (zn 0 p_X9_sure 0) (zwc (0, [.inr (.ref 292), .inl 9223372043297226772, .inl 6442450943], zP q_X9_sure_2) 0) := zentry (tt_X9_sure d hG) fm_X9_sure_2 bf_X9_sure_2 1000 (by decide +kernel) rfl ⟨Nat.zero_lt_succ _, trivial⟩ (fun f hf => match f, hf with
  | 0, _ => fun vs hv => (zbox_t r_X9_sure_2_0) vs hv
  | f + 1, h => absurd (show f + 1 < 1 from h) (Nat.not_lt.mpr (Nat.le_add_left 1 f)))
noncomputable def gs_X9_sure_2 : zMt := zgq true zUN 6 [.inr (.ref 292), .inl 9223372043297226772, .inl 6442450943] q_X9_sure_2 al_X9_sure_2
set_option maxRecDepth 100000 in
theorem cs_X9_sure_2 (d : Nat) (hG : zGood gh) : zC l G gh (d + 8) n_X9_sure gs_X9_sure_2 := zgq_ok zGood_ok (pcs := p_X9_sure) (by decide) rfl rfl (fun a ha => by simp only [al_X9_sure_2, List.mem_cons, List.not_mem_nil, or_false] at ha; rcases ha with rfl <;> decide +kernel) (fun gh hG => x_X9_sure_2 d hG) (by decide +kernel) hG
def q_X9_sure_3 : List (Nat × Nat) := [(292, zk102)]
noncomputable def al_X9_sure_3 : zAq := [(some (.inl 2147483647), [(292, zk102)])]
noncomputable def fm_X9_sure_3 : List zFm := [(0, [], (fun vs => [.inr (.ref 292), .inl 9223372043297226772, .inl 9223372054034644991]), (fun vs => zP q_X9_sure_3), (fun vs => Nat.sub (Nat.add 0 0) 0))]
def bf_X9_sure_3 : List Nat := []
theorem r_X9_sure_3_0 : zbox [] (fun vs => zFrun (zpost (zAlq al_X9_sure_3)) 1000 t_X9_sure fm_X9_sure_3 bf_X9_sure_3 (0, vs)) = true := by decide +kernel
set_option maxRecDepth 100000 in
theorem x_X9_sure_3 (d : Nat) (hG : zGood gh) : zS l G gh (d + 8) (zpost (zAlq al_X9_sure_3)) n_X9_sure (zn 0 p_X9_sure 0) (zwc (0, [.inr (.ref 292), .inl 9223372043297226772, .inl 9223372054034644991], zP q_X9_sure_3) 0) := zentry (tt_X9_sure d hG) fm_X9_sure_3 bf_X9_sure_3 1000 (by decide +kernel) rfl ⟨Nat.zero_lt_succ _, trivial⟩ (fun f hf => match f, hf with
  | 0, _ => fun vs hv => (zbox_t r_X9_sure_3_0) vs hv
  | f + 1, h => absurd (show f + 1 < 1 from h) (Nat.not_lt.mpr (Nat.le_add_left 1 f)))
noncomputable def gs_X9_sure_3 : zMt := zgq true zUN 6 [.inr (.ref 292), .inl 9223372043297226772, .inl 9223372054034644991] q_X9_sure_3 al_X9_sure_3
set_option maxRecDepth 100000 in
theorem cs_X9_sure_3 (d : Nat) (hG : zGood gh) : zC l G gh (d + 8) n_X9_sure gs_X9_sure_3 := zgq_ok zGood_ok (pcs := p_X9_sure) (by decide) rfl rfl (fun a ha => by simp only [al_X9_sure_3, List.mem_cons, List.not_mem_nil, or_false] at ha; rcases ha with rfl <;> decide +kernel) (fun gh hG => x_X9_sure_3 d hG) (by decide +kernel) hG
def q_X9_sure_4 : List (Nat × Nat) := [(292, zk102)]
noncomputable def al_X9_sure_4 : zAq := [(some (.inl 2147483647), [(292, zk102)])]
noncomputable def fm_X9_sure_4 : List zFm := [(0, [], (fun vs => [.inr (.ref 292), .inl 6442450943, .inl 8589934591]), (fun vs => zP q_X9_sure_4), (fun vs => Nat.sub (Nat.add 0 0) 0))]
def bf_X9_sure_4 : List Nat := []
theorem r_X9_sure_4_0 : zbox [] (fun vs => zFrun (zpost (zAlq al_X9_sure_4)) 1000 t_X9_sure fm_X9_sure_4 bf_X9_sure_4 (0, vs)) = true := by decide +kernel
set_option maxRecDepth 100000 in
theorem x_X9_sure_4 (d : Nat) (hG : zGood gh) : zS l G gh (d + 8) (zpost (zAlq al_X9_sure_4)) n_X9_sure (zn 0 p_X9_sure 0) (zwc (0, [.inr (.ref 292), .inl 6442450943, .inl 8589934591], zP q_X9_sure_4) 0) := zentry (tt_X9_sure d hG) fm_X9_sure_4 bf_X9_sure_4 1000 (by decide +kernel) rfl ⟨Nat.zero_lt_succ _, trivial⟩ (fun f hf => match f, hf with
  | 0, _ => fun vs hv => (zbox_t r_X9_sure_4_0) vs hv
  | f + 1, h => absurd (show f + 1 < 1 from h) (Nat.not_lt.mpr (Nat.le_add_left 1 f)))
noncomputable def gs_X9_sure_4 : zMt := zgq true zUN 6 [.inr (.ref 292), .inl 6442450943, .inl 8589934591] q_X9_sure_4 al_X9_sure_4
set_option maxRecDepth 100000 in
theorem cs_X9_sure_4 (d : Nat) (hG : zGood gh) : zC l G gh (d + 8) n_X9_sure gs_X9_sure_4 := zgq_ok zGood_ok (pcs := p_X9_sure) (by decide) rfl rfl (fun a ha => by simp only [al_X9_sure_4, List.mem_cons, List.not_mem_nil, or_false] at ha; rcases ha with rfl <;> decide +kernel) (fun gh hG => x_X9_sure_4 d hG) (by decide +kernel) hG
def q_X9_sure_5 : List (Nat × Nat) := [(292, zk102)]
noncomputable def al_X9_sure_5 : zAq := [(some (.inl 2147483647), [(292, zk102)])]
noncomputable def fm_X9_sure_5 : List zFm := [(0, [], (fun vs => [.inr (.ref 292), .inl 9223372135639023615, .inl 8589934591]), (fun vs => zP q_X9_sure_5), (fun vs => Nat.sub (Nat.add 0 0) 0))]
def bf_X9_sure_5 : List Nat := []
theorem r_X9_sure_5_0 : zbox [] (fun vs => zFrun (zpost (zAlq al_X9_sure_5)) 1000 t_X9_sure fm_X9_sure_5 bf_X9_sure_5 (0, vs)) = true := by decide +kernel
set_option maxRecDepth 100000 in
theorem x_X9_sure_5 (d : Nat) (hG : zGood gh) : zS l G gh (d + 8) (zpost (zAlq al_X9_sure_5)) n_X9_sure (zn 0 p_X9_sure 0) (zwc (0, [.inr (.ref 292), .inl 9223372135639023615, .inl 8589934591], zP q_X9_sure_5) 0) := zentry (tt_X9_sure d hG) fm_X9_sure_5 bf_X9_sure_5 1000 (by decide +kernel) rfl ⟨Nat.zero_lt_succ _, trivial⟩ (fun f hf => match f, hf with
  | 0, _ => fun vs hv => (zbox_t r_X9_sure_5_0) vs hv
  | f + 1, h => absurd (show f + 1 < 1 from h) (Nat.not_lt.mpr (Nat.le_add_left 1 f)))
noncomputable def gs_X9_sure_5 : zMt := zgq true zUN 6 [.inr (.ref 292), .inl 9223372135639023615, .inl 8589934591] q_X9_sure_5 al_X9_sure_5
set_option maxRecDepth 100000 in
theorem cs_X9_sure_5 (d : Nat) (hG : zGood gh) : zC l G gh (d + 8) n_X9_sure gs_X9_sure_5 := zgq_ok zGood_ok (pcs := p_X9_sure) (by decide) rfl rfl (fun a ha => by simp only [al_X9_sure_5, List.mem_cons, List.not_mem_nil, or_false] at ha; rcases ha with rfl <;> decide +kernel) (fun gh hG => x_X9_sure_5 d hG) (by decide +kernel) hG
noncomputable def gs_X9_sure : zMt := (zor gs_X9_sure_0 (zor gs_X9_sure_1 (zor gs_X9_sure_2 (zor gs_X9_sure_3 (zor gs_X9_sure_4 gs_X9_sure_5)))))
theorem cs_X9_sure (d : Nat) (hG : zGood gh) : zC l G gh (d + 8) n_X9_sure gs_X9_sure := (zor_ok (cs_X9_sure_0 d hG) (zor_ok (cs_X9_sure_1 d hG) (zor_ok (cs_X9_sure_2 d hG) (zor_ok (cs_X9_sure_3 d hG) (zor_ok (cs_X9_sure_4 d hG) (cs_X9_sure_5 d hG))))))
def p_X9_look : List Nat := [0, 12, 22, 24, 26, 33, 46, 51, 59, 69, 72, 78, 85, 128, 133, 135, 147, 153, 157, 160, 170, 177, 183, 190, 208, 223, 229, 234, 241, 244, 252, 258]
noncomputable def b_X9_look_0 : zBl := fun jp K => oIld 1 <| oInt 2147483648 <| oAld 0 <| oGetI 9 58 <| oCs 3 f_X9_in <| oIf zeq zne (jp 2) (jp 1)
theorem s_X9_look_0 (d : Nat) (hG : zGood gh) : zPb l G gh (d + 8) n_X9_look p_X9_look 0 b_X9_look_0 := fun K jp hj =>
    z_iload_n (n := 1) (i := 1) (zd (i := .iload_n 1) (n := 1) (by decide +kernel)) rfl <|
    z_iconst (n := 0) (zd (i := .iconst (0)) (n := 1) (by decide +kernel)) (by decide +kernel) <|
    z_aload_n (n := 0) (i := 0) (zd (i := .aload_n 0) (n := 1) (by decide +kernel)) rfl <|
    z_getI (ci := 9) (j := 58) (idx := 251) (zd (i := .getfield 251) (n := 3) (by decide +kernel)) (by decide +kernel) (by decide +kernel) rfl g1186 <|
    z_callS (idx := 304) (N := n_X9_in) (zd (i := .invokestatic 304) (n := 3) (by decide +kernel)) to_X9_in g1442 g1443 rfl rfl (c_X9_in (l := l) (G := G) (gh := gh) (d + 6)) <|
    z_if_eq (off := 13) (tgt := 22) (zd (i := .ifCond .eq (13)) (n := 3) (by decide +kernel)) (by decide +kernel) (zj (hj 2) (by decide +kernel)) (zj (hj 1) (by decide +kernel))
noncomputable def b_X9_look_1 : zBl := fun jp K => oIld 2 <| oInt 2147483648 <| oInt 2147483672 <| oCs 3 f_X9_in <| oIf zne zeq (jp 3) (jp 2)
theorem s_X9_look_1 (d : Nat) (hG : zGood gh) : zPb l G gh (d + 8) n_X9_look p_X9_look 12 b_X9_look_1 := fun K jp hj =>
    z_iload_n (n := 2) (i := 2) (zd (i := .iload_n 2) (n := 1) (by decide +kernel)) rfl <|
    z_iconst (n := 0) (zd (i := .iconst (0)) (n := 1) (by decide +kernel)) (by decide +kernel) <|
    z_bipush (n := 24) (zd (i := .bipush (24)) (n := 2) (by decide +kernel)) (by decide +kernel) <|
    z_callS (idx := 304) (N := n_X9_in) (zd (i := .invokestatic 304) (n := 3) (by decide +kernel)) to_X9_in g1442 g1443 rfl rfl (c_X9_in (l := l) (G := G) (gh := gh) (d + 6)) <|
    z_if_ne (off := 5) (tgt := 24) (zd (i := .ifCond .ne (5)) (n := 3) (by decide +kernel)) (by decide +kernel) (zj (hj 3) (by decide +kernel)) (zj (hj 2) (by decide +kernel))
noncomputable def b_X9_look_2 : zBl := fun jp K => oInt 2147483647 <| oIret K
theorem s_X9_look_2 (d : Nat) (hG : zGood gh) : zPb l G gh (d + 8) n_X9_look p_X9_look 22 b_X9_look_2 := fun K jp hj =>
    z_iconst (n := -1) (zd (i := .iconst (-1)) (n := 1) (by decide +kernel)) (by decide +kernel) <|
    z_iret (zd (i := .ireturn) (n := 1) (by decide +kernel)) rfl
noncomputable def b_X9_look_3 : zBl := fun jp K => oInt 2147483648 <| oIst 3 <| jp 4
theorem s_X9_look_3 (d : Nat) (hG : zGood gh) : zPb l G gh (d + 8) n_X9_look p_X9_look 24 b_X9_look_3 := fun K jp hj =>
    z_iconst (n := 0) (zd (i := .iconst (0)) (n := 1) (by decide +kernel)) (by decide +kernel) <|
    z_istore_n (n := 3) (i := 3) (zd (i := .istore_n 3) (n := 1) (by decide +kernel)) rfl (by decide +kernel) <|
    (zj (hj 4) (by decide +kernel))
noncomputable def b_X9_look_4 : zBl := fun jp K => oNLC 3 2147484068 zgeN zltN zn1_ge zn1_lt (jp 6) (jp 5)
theorem s_X9_look_4 (d : Nat) (hG : zGood gh) : zPb l G gh (d + 8) n_X9_look p_X9_look 26 b_X9_look_4 := fun K jp hj =>
    z_nLC_ge (i := 3) (c0 := 2147484068) (a1 := 1) (a2 := 3) (off := 16) (tgt := 46) (zLd_n (n := 3) (i := 3) (zd (i := .iload_n 3) (n := 1) (by decide +kernel)) rfl) (zCn_s (n := 420) (zd (i := .sipush (420)) (n := 3) (by decide +kernel)) (by decide +kernel)) (zd (i := .if_icmp .ge (16)) (n := 3) (by decide +kernel)) (by decide +kernel) (zj (hj 6) (by decide +kernel)) (zj (hj 5) (by decide +kernel))
noncomputable def b_X9_look_5 : zBl := fun jp K => oAld 0 <| oGetR 9 62 <| oIld 3 <| oInt 2147483648 <| oXast 10 zid <| oInc 3 2147483649 <| jp 4
theorem s_X9_look_5 (d : Nat) (hG : zGood gh) : zPb l G gh (d + 8) n_X9_look p_X9_look 33 b_X9_look_5 := fun K jp hj =>
    z_aload_n (n := 0) (i := 0) (zd (i := .aload_n 0) (n := 1) (by decide +kernel)) rfl <|
    z_getR (ci := 9) (j := 62) (idx := 140) (zd (i := .getfield 140) (n := 3) (by decide +kernel)) (by decide +kernel) (by decide +kernel) rfl g1190 <|
    z_iload_n (n := 3) (i := 3) (zd (i := .iload_n 3) (n := 1) (by decide +kernel)) rfl <|
    z_iconst (n := 0) (zd (i := .iconst (0)) (n := 1) (by decide +kernel)) (by decide +kernel) <|
    z_iast (zd (i := .iastore) (n := 1) (by decide +kernel)) <|
    z_iinc (i := 3) (n := 1) (zd (i := .iinc 3 (1)) (n := 3) (by decide +kernel)) (by decide +kernel) (by decide +kernel) <|
    z_goto (off := -17) (tgt := 26) (zd (i := .goto (-17)) (n := 3) (by decide +kernel)) (by decide +kernel) (zj (hj 4) (by decide +kernel))
noncomputable def b_X9_look_6 : zBl := fun jp K => oInt 2147483648 <| oIst 3 <| oInt 2147483648 <| oIst 4 <| jp 7
theorem s_X9_look_6 (d : Nat) (hG : zGood gh) : zPb l G gh (d + 8) n_X9_look p_X9_look 46 b_X9_look_6 := fun K jp hj =>
    z_iconst (n := 0) (zd (i := .iconst (0)) (n := 1) (by decide +kernel)) (by decide +kernel) <|
    z_istore_n (n := 3) (i := 3) (zd (i := .istore_n 3) (n := 1) (by decide +kernel)) rfl (by decide +kernel) <|
    z_iconst (n := 0) (zd (i := .iconst (0)) (n := 1) (by decide +kernel)) (by decide +kernel) <|
    z_istore (i := 4) (zd (i := .istore 4) (n := 2) (by decide +kernel)) (by decide +kernel) <|
    (zj (hj 7) (by decide +kernel))
noncomputable def b_X9_look_7 : zBl := fun jp K => oNLC 4 2147483828 zgeN zltN zn1_ge zn1_lt (jp 17) (jp 8)
theorem s_X9_look_7 (d : Nat) (hG : zGood gh) : zPb l G gh (d + 8) n_X9_look p_X9_look 51 b_X9_look_7 := fun K jp hj =>
    z_nLC_ge (i := 4) (c0 := 2147483828) (a1 := 2) (a2 := 3) (off := 97) (tgt := 153) (zLd_w (i := 4) (zd (i := .iload 4) (n := 2) (by decide +kernel))) (zCn_s (n := 180) (zd (i := .sipush (180)) (n := 3) (by decide +kernel)) (by decide +kernel)) (zd (i := .if_icmp .ge (97)) (n := 3) (by decide +kernel)) (by decide +kernel) (zj (hj 17) (by decide +kernel)) (zj (hj 8) (by decide +kernel))
noncomputable def b_X9_look_8 : zBl := fun jp K => oAld 0 <| oIld 4 <| oIld 1 <| oCv 9 2 gs_X9_isSo <| oIf zne zeq (jp 10) (jp 9)
theorem s_X9_look_8 (d : Nat) (hG : zGood gh) : zPb l G gh (d + 8) n_X9_look p_X9_look 59 b_X9_look_8 := fun K jp hj =>
    z_aload_n (n := 0) (i := 0) (zd (i := .aload_n 0) (n := 1) (by decide +kernel)) rfl <|
    z_iload (i := 4) (zd (i := .iload 4) (n := 2) (by decide +kernel)) <|
    z_iload_n (n := 1) (i := 1) (zd (i := .iload_n 1) (n := 1) (by decide +kernel)) rfl <|
    z_callV (idx := 428) (ci := 9) (N := n_X9_isSo) (zd (i := .invokevirtual 428) (n := 3) (by decide +kernel)) to_X9_isSo g1685 g1687 g94 (by decide +kernel) rfl rfl rfl (cs_X9_isSo (l := l) (G := G) (gh := gh) (d) hG) <|
    z_if_ne (off := 6) (tgt := 72) (zd (i := .ifCond .ne (6)) (n := 3) (by decide +kernel)) (by decide +kernel) (zj (hj 10) (by decide +kernel)) (zj (hj 9) (by decide +kernel))
noncomputable def b_X9_look_9 : zBl := fun jp K => jp 16
theorem s_X9_look_9 (d : Nat) (hG : zGood gh) : zPb l G gh (d + 8) n_X9_look p_X9_look 69 b_X9_look_9 := fun K jp hj =>
    z_goto (off := 78) (tgt := 147) (zd (i := .goto (78)) (n := 3) (by decide +kernel)) (by decide +kernel) (zj (hj 16) (by decide +kernel))
noncomputable def b_X9_look_10 : zBl := fun jp K => oInc 3 2147483649 <| oInt 2147483648 <| oIst 5 <| jp 11
theorem s_X9_look_10 (d : Nat) (hG : zGood gh) : zPb l G gh (d + 8) n_X9_look p_X9_look 72 b_X9_look_10 := fun K jp hj =>
    z_iinc (i := 3) (n := 1) (zd (i := .iinc 3 (1)) (n := 3) (by decide +kernel)) (by decide +kernel) (by decide +kernel) <|
    z_iconst (n := 0) (zd (i := .iconst (0)) (n := 1) (by decide +kernel)) (by decide +kernel) <|
    z_istore (i := 5) (zd (i := .istore 5) (n := 2) (by decide +kernel)) (by decide +kernel) <|
    (zj (hj 11) (by decide +kernel))
noncomputable def b_X9_look_11 : zBl := fun jp K => oNLC 5 2147483667 zgtN zleN zn1_gt zn1_le (jp 16) (jp 12)
theorem s_X9_look_11 (d : Nat) (hG : zGood gh) : zPb l G gh (d + 8) n_X9_look p_X9_look 78 b_X9_look_11 := fun K jp hj =>
    z_nLC_gt (i := 5) (c0 := 2147483667) (a1 := 2) (a2 := 2) (off := 65) (tgt := 147) (zLd_w (i := 5) (zd (i := .iload 5) (n := 2) (by decide +kernel))) (zCn_b (n := 19) (zd (i := .bipush (19)) (n := 2) (by decide +kernel)) (by decide +kernel)) (zd (i := .if_icmp .gt (65)) (n := 3) (by decide +kernel)) (by decide +kernel) (zj (hj 16) (by decide +kernel)) (zj (hj 12) (by decide +kernel))
noncomputable def b_X9_look_12 : zBl := fun jp K => oAld 0 <| oIld 5 <| oIld 4 <| oInt 2147483657 <| oB2z zidiv <| oIld 4 <| oInt 2147483657 <| oB2z zirem <| oInt 2147483649 <| oB2 zadd <| oAld 0 <| oGetR 9 48 <| oInt 2147483744 <| oXald 10 <| oIld 2 <| oB2 zadd <| oCv 9 4 gs_X9_seenAt <| oIst 6 <| oAld 0 <| oGetR 9 62 <| oInt 2147483669 <| oIld 5 <| oB2 zimul <| oNLC 6 2147483648 zgeN zltN zn1_ge zn1_lt (jp 14) (jp 13)
theorem s_X9_look_12 (d : Nat) (hG : zGood gh) : zPb l G gh (d + 8) n_X9_look p_X9_look 85 b_X9_look_12 := fun K jp hj =>
    z_aload_n (n := 0) (i := 0) (zd (i := .aload_n 0) (n := 1) (by decide +kernel)) rfl <|
    z_iload (i := 5) (zd (i := .iload 5) (n := 2) (by decide +kernel)) <|
    z_iload (i := 4) (zd (i := .iload 4) (n := 2) (by decide +kernel)) <|
    z_bipush (n := 9) (zd (i := .bipush (9)) (n := 2) (by decide +kernel)) (by decide +kernel) <|
    z_idiv (zd (i := .idiv) (n := 1) (by decide +kernel)) <|
    z_iload (i := 4) (zd (i := .iload 4) (n := 2) (by decide +kernel)) <|
    z_bipush (n := 9) (zd (i := .bipush (9)) (n := 2) (by decide +kernel)) (by decide +kernel) <|
    z_irem (zd (i := .irem) (n := 1) (by decide +kernel)) <|
    z_iconst (n := 1) (zd (i := .iconst (1)) (n := 1) (by decide +kernel)) (by decide +kernel) <|
    z_iadd (zd (i := .iadd) (n := 1) (by decide +kernel)) <|
    z_aload_n (n := 0) (i := 0) (zd (i := .aload_n 0) (n := 1) (by decide +kernel)) rfl <|
    z_getR (ci := 9) (j := 48) (idx := 110) (zd (i := .getfield 110) (n := 3) (by decide +kernel)) (by decide +kernel) (by decide +kernel) rfl g1176 <|
    z_bipush (n := 96) (zd (i := .bipush (96)) (n := 2) (by decide +kernel)) (by decide +kernel) <|
    z_iald (zd (i := .iaload) (n := 1) (by decide +kernel)) <|
    z_iload_n (n := 2) (i := 2) (zd (i := .iload_n 2) (n := 1) (by decide +kernel)) rfl <|
    z_iadd (zd (i := .iadd) (n := 1) (by decide +kernel)) <|
    z_callV (idx := 345) (ci := 9) (N := n_X9_seenAt) (zd (i := .invokevirtual 345) (n := 3) (by decide +kernel)) to_X9_seenAt g1582 g1584 g88 (by decide +kernel) rfl rfl rfl (cs_X9_seenAt (l := l) (G := G) (gh := gh) (d + 1) hG) <|
    z_istore (i := 6) (zd (i := .istore 6) (n := 2) (by decide +kernel)) (by decide +kernel) <|
    z_aload_n (n := 0) (i := 0) (zd (i := .aload_n 0) (n := 1) (by decide +kernel)) rfl <|
    z_getR (ci := 9) (j := 62) (idx := 140) (zd (i := .getfield 140) (n := 3) (by decide +kernel)) (by decide +kernel) (by decide +kernel) rfl g1190 <|
    z_bipush (n := 21) (zd (i := .bipush (21)) (n := 2) (by decide +kernel)) (by decide +kernel) <|
    z_iload (i := 5) (zd (i := .iload 5) (n := 2) (by decide +kernel)) <|
    z_imul (zd (i := .imul) (n := 1) (by decide +kernel)) <|
    z_nL0_ge (i := 6) (a1 := 2) (off := 8) (tgt := 133) (zLd_w (i := 6) (zd (i := .iload 6) (n := 2) (by decide +kernel))) (zd (i := .ifCond .ge (8)) (n := 3) (by decide +kernel)) (by decide +kernel) (zj (hj 14) (by decide +kernel)) (zj (hj 13) (by decide +kernel))
noncomputable def b_X9_look_13 : zBl := fun jp K => oInt 2147483668 <| jp 15
theorem s_X9_look_13 (d : Nat) (hG : zGood gh) : zPb l G gh (d + 8) n_X9_look p_X9_look 128 b_X9_look_13 := fun K jp hj =>
    z_bipush (n := 20) (zd (i := .bipush (20)) (n := 2) (by decide +kernel)) (by decide +kernel) <|
    z_goto (off := 5) (tgt := 135) (zd (i := .goto (5)) (n := 3) (by decide +kernel)) (by decide +kernel) (zj (hj 15) (by decide +kernel))
noncomputable def b_X9_look_14 : zBl := fun jp K => oIld 6 <| jp 15
theorem s_X9_look_14 (d : Nat) (hG : zGood gh) : zPb l G gh (d + 8) n_X9_look p_X9_look 133 b_X9_look_14 := fun K jp hj =>
    z_iload (i := 6) (zd (i := .iload 6) (n := 2) (by decide +kernel)) <|
    (zj (hj 15) (by decide +kernel))
noncomputable def b_X9_look_15 : zBl := fun jp K => oB2 zadd <| oDup2 <| oXald 10 <| oInt 2147483649 <| oB2 zadd <| oXast 10 zid <| oInc 5 2147483649 <| jp 11
theorem s_X9_look_15 (d : Nat) (hG : zGood gh) : zPb l G gh (d + 8) n_X9_look p_X9_look 135 b_X9_look_15 := fun K jp hj =>
    z_iadd (zd (i := .iadd) (n := 1) (by decide +kernel)) <|
    z_dup2 (zd (i := .dup2) (n := 1) (by decide +kernel)) <|
    z_iald (zd (i := .iaload) (n := 1) (by decide +kernel)) <|
    z_iconst (n := 1) (zd (i := .iconst (1)) (n := 1) (by decide +kernel)) (by decide +kernel) <|
    z_iadd (zd (i := .iadd) (n := 1) (by decide +kernel)) <|
    z_iast (zd (i := .iastore) (n := 1) (by decide +kernel)) <|
    z_iinc (i := 5) (n := 1) (zd (i := .iinc 5 (1)) (n := 3) (by decide +kernel)) (by decide +kernel) (by decide +kernel) <|
    z_goto (off := -66) (tgt := 78) (zd (i := .goto (-66)) (n := 3) (by decide +kernel)) (by decide +kernel) (zj (hj 11) (by decide +kernel))
noncomputable def b_X9_look_16 : zBl := fun jp K => oInc 4 2147483649 <| jp 7
theorem s_X9_look_16 (d : Nat) (hG : zGood gh) : zPb l G gh (d + 8) n_X9_look p_X9_look 147 b_X9_look_16 := fun K jp hj =>
    z_iinc (i := 4) (n := 1) (zd (i := .iinc 4 (1)) (n := 3) (by decide +kernel)) (by decide +kernel) (by decide +kernel) <|
    z_goto (off := -99) (tgt := 51) (zd (i := .goto (-99)) (n := 3) (by decide +kernel)) (by decide +kernel) (zj (hj 7) (by decide +kernel))
noncomputable def b_X9_look_17 : zBl := fun jp K => oNLC 3 2147483648 zneN zeqN zn1_ne zn1_eq (jp 19) (jp 18)
theorem s_X9_look_17 (d : Nat) (hG : zGood gh) : zPb l G gh (d + 8) n_X9_look p_X9_look 153 b_X9_look_17 := fun K jp hj =>
    z_nL0_ne (i := 3) (a1 := 1) (off := 6) (tgt := 160) (zLd_n (n := 3) (i := 3) (zd (i := .iload_n 3) (n := 1) (by decide +kernel)) rfl) (zd (i := .ifCond .ne (6)) (n := 3) (by decide +kernel)) (by decide +kernel) (zj (hj 19) (by decide +kernel)) (zj (hj 18) (by decide +kernel))
noncomputable def b_X9_look_18 : zBl := fun jp K => oInt 2147483646 <| oIret K
theorem s_X9_look_18 (d : Nat) (hG : zGood gh) : zPb l G gh (d + 8) n_X9_look p_X9_look 157 b_X9_look_18 := fun K jp hj =>
    z_bipush (n := -2) (zd (i := .bipush (-2)) (n := 2) (by decide +kernel)) (by decide +kernel) <|
    z_iret (zd (i := .ireturn) (n := 1) (by decide +kernel)) rfl
noncomputable def b_X9_look_19 : zBl := fun jp K => oInt 2147483646 <| oIst 4 <| oInt 2147483648 <| oIst 5 <| oInt 2147483648 <| oIst 6 <| jp 20
theorem s_X9_look_19 (d : Nat) (hG : zGood gh) : zPb l G gh (d + 8) n_X9_look p_X9_look 160 b_X9_look_19 := fun K jp hj =>
    z_bipush (n := -2) (zd (i := .bipush (-2)) (n := 2) (by decide +kernel)) (by decide +kernel) <|
    z_istore (i := 4) (zd (i := .istore 4) (n := 2) (by decide +kernel)) (by decide +kernel) <|
    z_iconst (n := 0) (zd (i := .iconst (0)) (n := 1) (by decide +kernel)) (by decide +kernel) <|
    z_istore (i := 5) (zd (i := .istore 5) (n := 2) (by decide +kernel)) (by decide +kernel) <|
    z_iconst (n := 0) (zd (i := .iconst (0)) (n := 1) (by decide +kernel)) (by decide +kernel) <|
    z_istore (i := 6) (zd (i := .istore 6) (n := 2) (by decide +kernel)) (by decide +kernel) <|
    (zj (hj 20) (by decide +kernel))
noncomputable def b_X9_look_20 : zBl := fun jp K => oNLC 6 2147483667 zgtN zleN zn1_gt zn1_le (jp 31) (jp 21)
theorem s_X9_look_20 (d : Nat) (hG : zGood gh) : zPb l G gh (d + 8) n_X9_look p_X9_look 170 b_X9_look_20 := fun K jp hj =>
    z_nLC_gt (i := 6) (c0 := 2147483667) (a1 := 2) (a2 := 2) (off := 84) (tgt := 258) (zLd_w (i := 6) (zd (i := .iload 6) (n := 2) (by decide +kernel))) (zCn_b (n := 19) (zd (i := .bipush (19)) (n := 2) (by decide +kernel)) (by decide +kernel)) (zd (i := .if_icmp .gt (84)) (n := 3) (by decide +kernel)) (by decide +kernel) (zj (hj 31) (by decide +kernel)) (zj (hj 21) (by decide +kernel))
noncomputable def b_X9_look_21 : zBl := fun jp K => oInt 2147483648 <| oIst 7 <| oInt 2147483648 <| oIst 8 <| jp 22
theorem s_X9_look_21 (d : Nat) (hG : zGood gh) : zPb l G gh (d + 8) n_X9_look p_X9_look 177 b_X9_look_21 := fun K jp hj =>
    z_iconst (n := 0) (zd (i := .iconst (0)) (n := 1) (by decide +kernel)) (by decide +kernel) <|
    z_istore (i := 7) (zd (i := .istore 7) (n := 2) (by decide +kernel)) (by decide +kernel) <|
    z_iconst (n := 0) (zd (i := .iconst (0)) (n := 1) (by decide +kernel)) (by decide +kernel) <|
    z_istore (i := 8) (zd (i := .istore 8) (n := 2) (by decide +kernel)) (by decide +kernel) <|
    (zj (hj 22) (by decide +kernel))
noncomputable def b_X9_look_22 : zBl := fun jp K => oNLC 8 2147483668 zgtN zleN zn1_gt zn1_le (jp 26) (jp 23)
theorem s_X9_look_22 (d : Nat) (hG : zGood gh) : zPb l G gh (d + 8) n_X9_look p_X9_look 183 b_X9_look_22 := fun K jp hj =>
    z_nLC_gt (i := 8) (c0 := 2147483668) (a1 := 2) (a2 := 2) (off := 42) (tgt := 229) (zLd_w (i := 8) (zd (i := .iload 8) (n := 2) (by decide +kernel))) (zCn_b (n := 20) (zd (i := .bipush (20)) (n := 2) (by decide +kernel)) (by decide +kernel)) (zd (i := .if_icmp .gt (42)) (n := 3) (by decide +kernel)) (by decide +kernel) (zj (hj 26) (by decide +kernel)) (zj (hj 23) (by decide +kernel))
noncomputable def b_X9_look_23 : zBl := fun jp K => oAld 0 <| oGetR 9 62 <| oInt 2147483669 <| oIld 6 <| oB2 zimul <| oIld 8 <| oB2 zadd <| oXald 10 <| oIld 7 <| oIc zle zgt (jp 25) (jp 24)
theorem s_X9_look_23 (d : Nat) (hG : zGood gh) : zPb l G gh (d + 8) n_X9_look p_X9_look 190 b_X9_look_23 := fun K jp hj =>
    z_aload_n (n := 0) (i := 0) (zd (i := .aload_n 0) (n := 1) (by decide +kernel)) rfl <|
    z_getR (ci := 9) (j := 62) (idx := 140) (zd (i := .getfield 140) (n := 3) (by decide +kernel)) (by decide +kernel) (by decide +kernel) rfl g1190 <|
    z_bipush (n := 21) (zd (i := .bipush (21)) (n := 2) (by decide +kernel)) (by decide +kernel) <|
    z_iload (i := 6) (zd (i := .iload 6) (n := 2) (by decide +kernel)) <|
    z_imul (zd (i := .imul) (n := 1) (by decide +kernel)) <|
    z_iload (i := 8) (zd (i := .iload 8) (n := 2) (by decide +kernel)) <|
    z_iadd (zd (i := .iadd) (n := 1) (by decide +kernel)) <|
    z_iald (zd (i := .iaload) (n := 1) (by decide +kernel)) <|
    z_iload (i := 7) (zd (i := .iload 7) (n := 2) (by decide +kernel)) <|
    z_icmp_le (off := 18) (tgt := 223) (zd (i := .if_icmp .le (18)) (n := 3) (by decide +kernel)) (by decide +kernel) (zj (hj 25) (by decide +kernel)) (zj (hj 24) (by decide +kernel))
noncomputable def b_X9_look_24 : zBl := fun jp K => oAld 0 <| oGetR 9 62 <| oInt 2147483669 <| oIld 6 <| oB2 zimul <| oIld 8 <| oB2 zadd <| oXald 10 <| oIst 7 <| jp 25
theorem s_X9_look_24 (d : Nat) (hG : zGood gh) : zPb l G gh (d + 8) n_X9_look p_X9_look 208 b_X9_look_24 := fun K jp hj =>
    z_aload_n (n := 0) (i := 0) (zd (i := .aload_n 0) (n := 1) (by decide +kernel)) rfl <|
    z_getR (ci := 9) (j := 62) (idx := 140) (zd (i := .getfield 140) (n := 3) (by decide +kernel)) (by decide +kernel) (by decide +kernel) rfl g1190 <|
    z_bipush (n := 21) (zd (i := .bipush (21)) (n := 2) (by decide +kernel)) (by decide +kernel) <|
    z_iload (i := 6) (zd (i := .iload 6) (n := 2) (by decide +kernel)) <|
    z_imul (zd (i := .imul) (n := 1) (by decide +kernel)) <|
    z_iload (i := 8) (zd (i := .iload 8) (n := 2) (by decide +kernel)) <|
    z_iadd (zd (i := .iadd) (n := 1) (by decide +kernel)) <|
    z_iald (zd (i := .iaload) (n := 1) (by decide +kernel)) <|
    z_istore (i := 7) (zd (i := .istore 7) (n := 2) (by decide +kernel)) (by decide +kernel) <|
    (zj (hj 25) (by decide +kernel))
noncomputable def b_X9_look_25 : zBl := fun jp K => oInc 8 2147483649 <| jp 22
theorem s_X9_look_25 (d : Nat) (hG : zGood gh) : zPb l G gh (d + 8) n_X9_look p_X9_look 223 b_X9_look_25 := fun K jp hj =>
    z_iinc (i := 8) (n := 1) (zd (i := .iinc 8 (1)) (n := 3) (by decide +kernel)) (by decide +kernel) (by decide +kernel) <|
    z_goto (off := -43) (tgt := 183) (zd (i := .goto (-43)) (n := 3) (by decide +kernel)) (by decide +kernel) (zj (hj 22) (by decide +kernel))
noncomputable def b_X9_look_26 : zBl := fun jp K => oNLC 4 2147483648 zltN zgeN zn1_lt zn1_ge (jp 29) (jp 27)
theorem s_X9_look_26 (d : Nat) (hG : zGood gh) : zPb l G gh (d + 8) n_X9_look p_X9_look 229 b_X9_look_26 := fun K jp hj =>
    z_nL0_lt (i := 4) (a1 := 2) (off := 13) (tgt := 244) (zLd_w (i := 4) (zd (i := .iload 4) (n := 2) (by decide +kernel))) (zd (i := .ifCond .lt (13)) (n := 3) (by decide +kernel)) (by decide +kernel) (zj (hj 29) (by decide +kernel)) (zj (hj 27) (by decide +kernel))
noncomputable def b_X9_look_27 : zBl := fun jp K => oNLL 7 5 zltN zgeN zn1_lt zn2_lt zn1_ge zn2_ge (jp 29) (jp 28)
theorem s_X9_look_27 (d : Nat) (hG : zGood gh) : zPb l G gh (d + 8) n_X9_look p_X9_look 234 b_X9_look_27 := fun K jp hj =>
    z_nLL_lt (i := 7) (j := 5) (a1 := 2) (a2 := 2) (off := 6) (tgt := 244) (zLd_w (i := 7) (zd (i := .iload 7) (n := 2) (by decide +kernel))) (zLd_w (i := 5) (zd (i := .iload 5) (n := 2) (by decide +kernel))) (zd (i := .if_icmp .lt (6)) (n := 3) (by decide +kernel)) (by decide +kernel) (zj (hj 29) (by decide +kernel)) (zj (hj 28) (by decide +kernel))
noncomputable def b_X9_look_28 : zBl := fun jp K => jp 30
theorem s_X9_look_28 (d : Nat) (hG : zGood gh) : zPb l G gh (d + 8) n_X9_look p_X9_look 241 b_X9_look_28 := fun K jp hj =>
    z_goto (off := 11) (tgt := 252) (zd (i := .goto (11)) (n := 3) (by decide +kernel)) (by decide +kernel) (zj (hj 30) (by decide +kernel))
noncomputable def b_X9_look_29 : zBl := fun jp K => oIld 6 <| oIst 4 <| oIld 7 <| oIst 5 <| jp 30
theorem s_X9_look_29 (d : Nat) (hG : zGood gh) : zPb l G gh (d + 8) n_X9_look p_X9_look 244 b_X9_look_29 := fun K jp hj =>
    z_iload (i := 6) (zd (i := .iload 6) (n := 2) (by decide +kernel)) <|
    z_istore (i := 4) (zd (i := .istore 4) (n := 2) (by decide +kernel)) (by decide +kernel) <|
    z_iload (i := 7) (zd (i := .iload 7) (n := 2) (by decide +kernel)) <|
    z_istore (i := 5) (zd (i := .istore 5) (n := 2) (by decide +kernel)) (by decide +kernel) <|
    (zj (hj 30) (by decide +kernel))
noncomputable def b_X9_look_30 : zBl := fun jp K => oInc 6 2147483649 <| jp 20
theorem s_X9_look_30 (d : Nat) (hG : zGood gh) : zPb l G gh (d + 8) n_X9_look p_X9_look 252 b_X9_look_30 := fun K jp hj =>
    z_iinc (i := 6) (n := 1) (zd (i := .iinc 6 (1)) (n := 3) (by decide +kernel)) (by decide +kernel) (by decide +kernel) <|
    z_goto (off := -85) (tgt := 170) (zd (i := .goto (-85)) (n := 3) (by decide +kernel)) (by decide +kernel) (zj (hj 20) (by decide +kernel))
noncomputable def b_X9_look_31 : zBl := fun jp K => oIld 4 <| oIret K
theorem s_X9_look_31 (d : Nat) (hG : zGood gh) : zPb l G gh (d + 8) n_X9_look p_X9_look 258 b_X9_look_31 := fun K jp hj =>
    z_iload (i := 4) (zd (i := .iload 4) (n := 2) (by decide +kernel)) <|
    z_iret (zd (i := .ireturn) (n := 1) (by decide +kernel)) rfl
noncomputable def t_X9_look : List zBl := [b_X9_look_0, b_X9_look_1, b_X9_look_2, b_X9_look_3, b_X9_look_4, b_X9_look_5, b_X9_look_6, b_X9_look_7, b_X9_look_8, b_X9_look_9, b_X9_look_10, b_X9_look_11, b_X9_look_12, b_X9_look_13, b_X9_look_14, b_X9_look_15, b_X9_look_16, b_X9_look_17, b_X9_look_18, b_X9_look_19, b_X9_look_20, b_X9_look_21, b_X9_look_22, b_X9_look_23, b_X9_look_24, b_X9_look_25, b_X9_look_26, b_X9_look_27, b_X9_look_28, b_X9_look_29, b_X9_look_30, b_X9_look_31]
theorem tt_X9_look (d : Nat) (hG : zGood gh) : zT (zPb l G gh (d + 8) n_X9_look p_X9_look) t_X9_look p_X9_look := ⟨s_X9_look_0 d hG, s_X9_look_1 d hG, s_X9_look_2 d hG, s_X9_look_3 d hG, s_X9_look_4 d hG, s_X9_look_5 d hG, s_X9_look_6 d hG, s_X9_look_7 d hG, s_X9_look_8 d hG, s_X9_look_9 d hG, s_X9_look_10 d hG, s_X9_look_11 d hG, s_X9_look_12 d hG, s_X9_look_13 d hG, s_X9_look_14 d hG, s_X9_look_15 d hG, s_X9_look_16 d hG, s_X9_look_17 d hG, s_X9_look_18 d hG, s_X9_look_19 d hG, s_X9_look_20 d hG, s_X9_look_21 d hG, s_X9_look_22 d hG, s_X9_look_23 d hG, s_X9_look_24 d hG, s_X9_look_25 d hG, s_X9_look_26 d hG, s_X9_look_27 d hG, s_X9_look_28 d hG, s_X9_look_29 d hG, s_X9_look_30 d hG, s_X9_look_31 d hG, trivial⟩
def q_X9_look_0 : List (Nat × Nat) := [(292, zk102), (321, zk3), (322, zk116), (323, zk104), (330, zk7), (331, zk7), (332, zk7), (333, zk18)]
noncomputable def al_X9_look_0 : zAq := [(some (.inl 9223372034707292179), [(292, zk105), (321, zk4), (322, zk117), (323, zk104), (330, zk7), (331, zk7), (332, zk7), (333, zk120)])]
def mq_X9_look_0_1 : List (Nat × Nat) := [(292, zk102), (321, zk3), (322, zk116), (323, zk104), (330, zk7), (331, zk7), (332, zk7), (333, zk120)]
def mq_X9_look_0_2 : List (Nat × Nat) := [(292, zk105), (321, zk4), (322, zk117), (323, zk104), (330, zk7), (331, zk7), (332, zk7), (333, zk120)]
def mq_X9_look_0_3 : List (Nat × Nat) := [(292, zk105), (321, zk4), (322, zk117), (323, zk104), (330, zk7), (331, zk7), (332, zk7), (333, zk120)]
def mq_X9_look_0_4 : List (Nat × Nat) := [(292, zk105), (321, zk4), (322, zk117), (323, zk104), (330, zk7), (331, zk7), (332, zk7), (333, zk120)]
def mq_X9_look_0_5 : List (Nat × Nat) := [(292, zk105), (321, zk4), (322, zk117), (323, zk104), (330, zk7), (331, zk7), (332, zk7), (333, zk120)]
noncomputable def fm_X9_look_0 : List zFm := [(0, [], (fun vs => [.inr (.ref 292), .inl 9223372043297226772, .inl 9223372043297226776]), (fun vs => zP q_X9_look_0), (fun vs => Nat.sub (Nat.add 55572 0) 0)),
  (4, [(3, 2147483648, 2147484068)], (fun vs => [.inr (.ref 292), .inl 9223372043297226772, .inl 9223372043297226776, .inl (zn 0 vs 0)]), (fun vs => zP mq_X9_look_0_1), (fun vs => Nat.sub (Nat.add 94489336062 0) (Nat.add 0 (Nat.mul 44 (zn 0 vs 0))))),
  (7, [(4, 2147483648, 2147483828)], (fun vs => [.inr (.ref 292), .inl 9223372043297226772, .inl 9223372043297226776, .inl 8589934591, .inl (zn 0 vs 0)]), (fun vs => zP mq_X9_look_0_2), (fun vs => Nat.sub (Nat.add 94489317538 0) (Nat.add 0 (Nat.mul 44 (zn 0 vs 0))))),
  (11, [(4, 2147483648, 2147483827), (5, 2147483648, 2147483668)], (fun vs => [.inr (.ref 292), .inl 9223372043297226772, .inl 9223372043297226776, .inl 8589934591, .inl (zn 0 vs 0), .inl (zn 0 vs 1)]), (fun vs => zP mq_X9_look_0_3), (fun vs => Nat.sub (Nat.add 96636801185 0) (Nat.add (Nat.add 0 (Nat.mul 44 (zn 0 vs 0))) (Nat.mul 1 (zn 0 vs 1))))),
  (20, [(6, 2147483648, 2147483668)], (fun vs => [.inr (.ref 292), .inl 9223372043297226772, .inl 9223372043297226776, .inl 8589934591, .inl 9223372034707292179, .inl 8589934591, .inl (zn 0 vs 0)]), (fun vs => zP mq_X9_look_0_4), (fun vs => Nat.sub (Nat.add 94489299014 0) (Nat.add 0 (Nat.mul 44 (zn 0 vs 0))))),
  (22, [(6, 2147483648, 2147483667), (8, 2147483648, 2147483669)], (fun vs => [.inr (.ref 292), .inl 9223372043297226772, .inl 9223372043297226776, .inl 8589934591, .inl 9223372034707292179, .inl 8589934591, .inl (zn 0 vs 0), .inl 8589934591, .inl (zn 0 vs 1)]), (fun vs => zP mq_X9_look_0_5), (fun vs => Nat.sub (Nat.add 96636782661 0) (Nat.add (Nat.add 0 (Nat.mul 44 (zn 0 vs 0))) (Nat.mul 1 (zn 0 vs 1)))))]
def bf_X9_look_0 : List Nat := [0, 0, 0, 0, 2, 0, 0, 3, 0, 0, 0, 4, 0, 0, 0, 0, 0, 0, 0, 0, 5, 0, 6]
theorem r_X9_look_0_0 : zbox [] (fun vs => zFrun (zpost (zAlq al_X9_look_0)) 1000 t_X9_look fm_X9_look_0 bf_X9_look_0 (0, vs)) = true := by decide +kernel
theorem r_X9_look_0_1 : zbox [(3, 2147483648, 2147484068)] (fun vs => zFrun (zpost (zAlq al_X9_look_0)) 1000 t_X9_look fm_X9_look_0 bf_X9_look_0 (1, vs)) = true := by decide +kernel
theorem r_X9_look_0_2 : zbox [(4, 2147483648, 2147483828)] (fun vs => zFrun (zpost (zAlq al_X9_look_0)) 1000 t_X9_look fm_X9_look_0 bf_X9_look_0 (2, vs)) = true := by decide +kernel
theorem r_X9_look_0_3_0 : zbox [(4, 2147483648, 2147483665), (5, 2147483648, 2147483668)] (fun vs => zFrun (zpost (zAlq al_X9_look_0)) 1000 t_X9_look fm_X9_look_0 bf_X9_look_0 (3, vs)) = true := by decide +kernel
theorem r_X9_look_0_3_1 : zbox [(4, 2147483666, 2147483683), (5, 2147483648, 2147483668)] (fun vs => zFrun (zpost (zAlq al_X9_look_0)) 1000 t_X9_look fm_X9_look_0 bf_X9_look_0 (3, vs)) = true := by decide +kernel
theorem r_X9_look_0_3_2 : zbox [(4, 2147483684, 2147483701), (5, 2147483648, 2147483668)] (fun vs => zFrun (zpost (zAlq al_X9_look_0)) 1000 t_X9_look fm_X9_look_0 bf_X9_look_0 (3, vs)) = true := by decide +kernel
theorem r_X9_look_0_3_3 : zbox [(4, 2147483702, 2147483719), (5, 2147483648, 2147483668)] (fun vs => zFrun (zpost (zAlq al_X9_look_0)) 1000 t_X9_look fm_X9_look_0 bf_X9_look_0 (3, vs)) = true := by decide +kernel
theorem r_X9_look_0_3_4 : zbox [(4, 2147483720, 2147483737), (5, 2147483648, 2147483668)] (fun vs => zFrun (zpost (zAlq al_X9_look_0)) 1000 t_X9_look fm_X9_look_0 bf_X9_look_0 (3, vs)) = true := by decide +kernel
theorem r_X9_look_0_3_5 : zbox [(4, 2147483738, 2147483755), (5, 2147483648, 2147483668)] (fun vs => zFrun (zpost (zAlq al_X9_look_0)) 1000 t_X9_look fm_X9_look_0 bf_X9_look_0 (3, vs)) = true := by decide +kernel
theorem r_X9_look_0_3_6 : zbox [(4, 2147483756, 2147483773), (5, 2147483648, 2147483668)] (fun vs => zFrun (zpost (zAlq al_X9_look_0)) 1000 t_X9_look fm_X9_look_0 bf_X9_look_0 (3, vs)) = true := by decide +kernel
theorem r_X9_look_0_3_7 : zbox [(4, 2147483774, 2147483791), (5, 2147483648, 2147483668)] (fun vs => zFrun (zpost (zAlq al_X9_look_0)) 1000 t_X9_look fm_X9_look_0 bf_X9_look_0 (3, vs)) = true := by decide +kernel
theorem r_X9_look_0_3_8 : zbox [(4, 2147483792, 2147483809), (5, 2147483648, 2147483668)] (fun vs => zFrun (zpost (zAlq al_X9_look_0)) 1000 t_X9_look fm_X9_look_0 bf_X9_look_0 (3, vs)) = true := by decide +kernel
theorem r_X9_look_0_3_9 : zbox [(4, 2147483810, 2147483827), (5, 2147483648, 2147483668)] (fun vs => zFrun (zpost (zAlq al_X9_look_0)) 1000 t_X9_look fm_X9_look_0 bf_X9_look_0 (3, vs)) = true := by decide +kernel
theorem r_X9_look_0_4 : zbox [(6, 2147483648, 2147483668)] (fun vs => zFrun (zpost (zAlq al_X9_look_0)) 1000 t_X9_look fm_X9_look_0 bf_X9_look_0 (4, vs)) = true := by decide +kernel
theorem r_X9_look_0_5 : zbox [(6, 2147483648, 2147483667), (8, 2147483648, 2147483669)] (fun vs => zFrun (zpost (zAlq al_X9_look_0)) 1000 t_X9_look fm_X9_look_0 bf_X9_look_0 (5, vs)) = true := by decide +kernel
set_option maxRecDepth 100000 in
theorem x_X9_look_0 (d : Nat) (hG : zGood gh) : zS l G gh (d + 8) (zpost (zAlq al_X9_look_0)) n_X9_look (zn 0 p_X9_look 0) (zwc (0, [.inr (.ref 292), .inl 9223372043297226772, .inl 9223372043297226776], zP q_X9_look_0) 0) := zentry (tt_X9_look d hG) fm_X9_look_0 bf_X9_look_0 1000 (by decide +kernel) rfl ⟨Nat.zero_lt_succ _, trivial⟩ (fun f hf => match f, hf with
  | 0, _ => fun vs hv => (zbox_t r_X9_look_0_0) vs hv
  | 1, _ => fun vs hv => (zbox_t r_X9_look_0_1) vs hv
  | 2, _ => fun vs hv => (zbox_t r_X9_look_0_2) vs hv
  | 3, _ => fun vs hv => (zbox_t2 (zbox_t r_X9_look_0_3_0) (zbox_t2 (zbox_t r_X9_look_0_3_1) (zbox_t2 (zbox_t r_X9_look_0_3_2) (zbox_t2 (zbox_t r_X9_look_0_3_3) (zbox_t2 (zbox_t r_X9_look_0_3_4) (zbox_t2 (zbox_t r_X9_look_0_3_5) (zbox_t2 (zbox_t r_X9_look_0_3_6) (zbox_t2 (zbox_t r_X9_look_0_3_7) (zbox_t2 (zbox_t r_X9_look_0_3_8) (zbox_t r_X9_look_0_3_9)))))))))) vs hv
  | 4, _ => fun vs hv => (zbox_t r_X9_look_0_4) vs hv
  | 5, _ => fun vs hv => (zbox_t r_X9_look_0_5) vs hv
  | f + 6, h => absurd (show f + 6 < 6 from h) (Nat.not_lt.mpr (Nat.le_add_left 6 f)))
noncomputable def gs_X9_look_0 : zMt := zgq true zUN 9 [.inr (.ref 292), .inl 9223372043297226772, .inl 9223372043297226776] q_X9_look_0 al_X9_look_0
set_option maxRecDepth 100000 in
theorem cs_X9_look_0 (d : Nat) (hG : zGood gh) : zC l G gh (d + 8) n_X9_look gs_X9_look_0 := zgq_ok zGood_ok (pcs := p_X9_look) (by decide) rfl rfl (fun a ha => by simp only [al_X9_look_0, List.mem_cons, List.not_mem_nil, or_false] at ha; rcases ha with rfl <;> decide +kernel) (fun gh hG => x_X9_look_0 d hG) (by decide +kernel) hG
def q_X9_look_1 : List (Nat × Nat) := [(292, zk102)]
noncomputable def al_X9_look_1 : zAq := [(some (.inl 2147483647), [(292, zk102)])]
noncomputable def fm_X9_look_1 : List zFm := [(0, [], (fun vs => [.inr (.ref 292), .inl 9223372043297226772, .inl 6442450943]), (fun vs => zP q_X9_look_1), (fun vs => Nat.sub (Nat.add 0 0) 0))]
def bf_X9_look_1 : List Nat := []
theorem r_X9_look_1_0 : zbox [] (fun vs => zFrun (zpost (zAlq al_X9_look_1)) 1000 t_X9_look fm_X9_look_1 bf_X9_look_1 (0, vs)) = true := by decide +kernel
set_option maxRecDepth 100000 in
theorem x_X9_look_1 (d : Nat) (hG : zGood gh) : zS l G gh (d + 8) (zpost (zAlq al_X9_look_1)) n_X9_look (zn 0 p_X9_look 0) (zwc (0, [.inr (.ref 292), .inl 9223372043297226772, .inl 6442450943], zP q_X9_look_1) 0) := zentry (tt_X9_look d hG) fm_X9_look_1 bf_X9_look_1 1000 (by decide +kernel) rfl ⟨Nat.zero_lt_succ _, trivial⟩ (fun f hf => match f, hf with
  | 0, _ => fun vs hv => (zbox_t r_X9_look_1_0) vs hv
  | f + 1, h => absurd (show f + 1 < 1 from h) (Nat.not_lt.mpr (Nat.le_add_left 1 f)))
noncomputable def gs_X9_look_1 : zMt := zgq true zUN 9 [.inr (.ref 292), .inl 9223372043297226772, .inl 6442450943] q_X9_look_1 al_X9_look_1
set_option maxRecDepth 100000 in
theorem cs_X9_look_1 (d : Nat) (hG : zGood gh) : zC l G gh (d + 8) n_X9_look gs_X9_look_1 := zgq_ok zGood_ok (pcs := p_X9_look) (by decide) rfl rfl (fun a ha => by simp only [al_X9_look_1, List.mem_cons, List.not_mem_nil, or_false] at ha; rcases ha with rfl <;> decide +kernel) (fun gh hG => x_X9_look_1 d hG) (by decide +kernel) hG
def q_X9_look_2 : List (Nat × Nat) := [(292, zk102)]
noncomputable def al_X9_look_2 : zAq := [(some (.inl 2147483647), [(292, zk102)])]
noncomputable def fm_X9_look_2 : List zFm := [(0, [], (fun vs => [.inr (.ref 292), .inl 9223372043297226772, .inl 9223372152818892799]), (fun vs => zP q_X9_look_2), (fun vs => Nat.sub (Nat.add 0 0) 0))]
def bf_X9_look_2 : List Nat := []
theorem r_X9_look_2_0 : zbox [] (fun vs => zFrun (zpost (zAlq al_X9_look_2)) 1000 t_X9_look fm_X9_look_2 bf_X9_look_2 (0, vs)) = true := by decide +kernel
set_option maxRecDepth 100000 in
theorem x_X9_look_2 (d : Nat) (hG : zGood gh) : zS l G gh (d + 8) (zpost (zAlq al_X9_look_2)) n_X9_look (zn 0 p_X9_look 0) (zwc (0, [.inr (.ref 292), .inl 9223372043297226772, .inl 9223372152818892799], zP q_X9_look_2) 0) := zentry (tt_X9_look d hG) fm_X9_look_2 bf_X9_look_2 1000 (by decide +kernel) rfl ⟨Nat.zero_lt_succ _, trivial⟩ (fun f hf => match f, hf with
  | 0, _ => fun vs hv => (zbox_t r_X9_look_2_0) vs hv
  | f + 1, h => absurd (show f + 1 < 1 from h) (Nat.not_lt.mpr (Nat.le_add_left 1 f)))
noncomputable def gs_X9_look_2 : zMt := zgq true zUN 9 [.inr (.ref 292), .inl 9223372043297226772, .inl 9223372152818892799] q_X9_look_2 al_X9_look_2
set_option maxRecDepth 100000 in
theorem cs_X9_look_2 (d : Nat) (hG : zGood gh) : zC l G gh (d + 8) n_X9_look gs_X9_look_2 := zgq_ok zGood_ok (pcs := p_X9_look) (by decide) rfl rfl (fun a ha => by simp only [al_X9_look_2, List.mem_cons, List.not_mem_nil, or_false] at ha; rcases ha with rfl <;> decide +kernel) (fun gh hG => x_X9_look_2 d hG) (by decide +kernel) hG
def q_X9_look_3 : List (Nat × Nat) := [(292, zk102)]
noncomputable def al_X9_look_3 : zAq := [(some (.inl 2147483647), [(292, zk102)])]
noncomputable def fm_X9_look_3 : List zFm := [(0, [], (fun vs => [.inr (.ref 292), .inl 6442450943, .inl 8589934591]), (fun vs => zP q_X9_look_3), (fun vs => Nat.sub (Nat.add 0 0) 0))]
def bf_X9_look_3 : List Nat := []
theorem r_X9_look_3_0 : zbox [] (fun vs => zFrun (zpost (zAlq al_X9_look_3)) 1000 t_X9_look fm_X9_look_3 bf_X9_look_3 (0, vs)) = true := by decide +kernel
set_option maxRecDepth 100000 in
theorem x_X9_look_3 (d : Nat) (hG : zGood gh) : zS l G gh (d + 8) (zpost (zAlq al_X9_look_3)) n_X9_look (zn 0 p_X9_look 0) (zwc (0, [.inr (.ref 292), .inl 6442450943, .inl 8589934591], zP q_X9_look_3) 0) := zentry (tt_X9_look d hG) fm_X9_look_3 bf_X9_look_3 1000 (by decide +kernel) rfl ⟨Nat.zero_lt_succ _, trivial⟩ (fun f hf => match f, hf with
  | 0, _ => fun vs hv => (zbox_t r_X9_look_3_0) vs hv
  | f + 1, h => absurd (show f + 1 < 1 from h) (Nat.not_lt.mpr (Nat.le_add_left 1 f)))
noncomputable def gs_X9_look_3 : zMt := zgq true zUN 9 [.inr (.ref 292), .inl 6442450943, .inl 8589934591] q_X9_look_3 al_X9_look_3
set_option maxRecDepth 100000 in
theorem cs_X9_look_3 (d : Nat) (hG : zGood gh) : zC l G gh (d + 8) n_X9_look gs_X9_look_3 := zgq_ok zGood_ok (pcs := p_X9_look) (by decide) rfl rfl (fun a ha => by simp only [al_X9_look_3, List.mem_cons, List.not_mem_nil, or_false] at ha; rcases ha with rfl <;> decide +kernel) (fun gh hG => x_X9_look_3 d hG) (by decide +kernel) hG
def q_X9_look_4 : List (Nat × Nat) := [(292, zk102)]
noncomputable def al_X9_look_4 : zAq := [(some (.inl 2147483647), [(292, zk102)])]
noncomputable def fm_X9_look_4 : List zFm := [(0, [], (fun vs => [.inr (.ref 292), .inl 9223372135639023615, .inl 8589934591]), (fun vs => zP q_X9_look_4), (fun vs => Nat.sub (Nat.add 0 0) 0))]
def bf_X9_look_4 : List Nat := []
theorem r_X9_look_4_0 : zbox [] (fun vs => zFrun (zpost (zAlq al_X9_look_4)) 1000 t_X9_look fm_X9_look_4 bf_X9_look_4 (0, vs)) = true := by decide +kernel
set_option maxRecDepth 100000 in
theorem x_X9_look_4 (d : Nat) (hG : zGood gh) : zS l G gh (d + 8) (zpost (zAlq al_X9_look_4)) n_X9_look (zn 0 p_X9_look 0) (zwc (0, [.inr (.ref 292), .inl 9223372135639023615, .inl 8589934591], zP q_X9_look_4) 0) := zentry (tt_X9_look d hG) fm_X9_look_4 bf_X9_look_4 1000 (by decide +kernel) rfl ⟨Nat.zero_lt_succ _, trivial⟩ (fun f hf => match f, hf with
  | 0, _ => fun vs hv => (zbox_t r_X9_look_4_0) vs hv
  | f + 1, h => absurd (show f + 1 < 1 from h) (Nat.not_lt.mpr (Nat.le_add_left 1 f)))
noncomputable def gs_X9_look_4 : zMt := zgq true zUN 9 [.inr (.ref 292), .inl 9223372135639023615, .inl 8589934591] q_X9_look_4 al_X9_look_4
set_option maxRecDepth 100000 in
theorem cs_X9_look_4 (d : Nat) (hG : zGood gh) : zC l G gh (d + 8) n_X9_look gs_X9_look_4 := zgq_ok zGood_ok (pcs := p_X9_look) (by decide) rfl rfl (fun a ha => by simp only [al_X9_look_4, List.mem_cons, List.not_mem_nil, or_false] at ha; rcases ha with rfl <;> decide +kernel) (fun gh hG => x_X9_look_4 d hG) (by decide +kernel) hG
noncomputable def gs_X9_look : zMt := (zor gs_X9_look_0 (zor gs_X9_look_1 (zor gs_X9_look_2 (zor gs_X9_look_3 gs_X9_look_4))))
theorem cs_X9_look (d : Nat) (hG : zGood gh) : zC l G gh (d + 8) n_X9_look gs_X9_look := (zor_ok (cs_X9_look_0 d hG) (zor_ok (cs_X9_look_1 d hG) (zor_ok (cs_X9_look_2 d hG) (zor_ok (cs_X9_look_3 d hG) (cs_X9_look_4 d hG)))))
def p_X9_count : List Nat := [0, 88, 98, 108, 116, 127, 138, 141, 147, 156, 159, 165, 167, 176, 185, 194, 199, 204, 209, 218, 222, 223, 232, 236, 237, 247, 251, 252, 254, 261, 265, 266, 267, 276, 288, 290, 303, 317, 319]
noncomputable def b_X9_count_0 : zBl := fun jp K => oAld 0 <| oCv 9 0 gs_X9_copies <| oInt 2147483648 <| oIst 2 <| oIld 1 <| oTab 2147483648 [jp 1, jp 2, jp 3, jp 4, jp 5, jp 6, jp 12, jp 13, jp 14, jp 15, jp 16, jp 17, jp 18, jp 28, jp 32, jp 33, jp 34] (jp 38)
theorem s_X9_count_0 (d : Nat) (hG : zGood gh) : zPb l G gh (d + 8) n_X9_count p_X9_count 0 b_X9_count_0 := fun K jp hj =>
    z_aload_n (n := 0) (i := 0) (zd (i := .aload_n 0) (n := 1) (by decide +kernel)) rfl <|
    z_callV (idx := 375) (ci := 9) (N := n_X9_copies) (zd (i := .invokevirtual 375) (n := 3) (by decide +kernel)) to_X9_copies g1445 g1447 g67 (by decide +kernel) rfl rfl rfl (cs_X9_copies (l := l) (G := G) (gh := gh) (d + 6)) <|
    z_iconst (n := 0) (zd (i := .iconst (0)) (n := 1) (by decide +kernel)) (by decide +kernel) <|
    z_istore_n (n := 2) (i := 2) (zd (i := .istore_n 2) (n := 1) (by decide +kernel)) rfl (by decide +kernel) <|
    z_iload_n (n := 1) (i := 1) (zd (i := .iload_n 1) (n := 1) (by decide +kernel)) rfl <|
    z_table (v := 2147483648) (df := 319) (len := 81) (x := 0) (dflt := 312) (lo := 0) (hi := 16) (offs := #[81, 91, 101, 109, 120, 131, 160, 169, 178, 187, 192, 197, 202, 247, 260, 269, 281]) (tgts := [88, 98, 108, 116, 127, 138, 167, 176, 185, 194, 199, 204, 209, 254, 267, 276, 288]) (zd (i := .tableswitch (312) (0) (16) #[81, 91, 101, 109, 120, 131, 160, 169, 178, 187, 192, 197, 202, 247, 260, 269, 281]) (n := 81) (by decide +kernel)) (by decide +kernel) rfl rfl (by decide +kernel) (by decide +kernel) (by decide +kernel) ⟨(zj (hj 1) (by decide +kernel)), (zj (hj 2) (by decide +kernel)), (zj (hj 3) (by decide +kernel)), (zj (hj 4) (by decide +kernel)), (zj (hj 5) (by decide +kernel)), (zj (hj 6) (by decide +kernel)), (zj (hj 12) (by decide +kernel)), (zj (hj 13) (by decide +kernel)), (zj (hj 14) (by decide +kernel)), (zj (hj 15) (by decide +kernel)), (zj (hj 16) (by decide +kernel)), (zj (hj 17) (by decide +kernel)), (zj (hj 18) (by decide +kernel)), (zj (hj 28) (by decide +kernel)), (zj (hj 32) (by decide +kernel)), (zj (hj 33) (by decide +kernel)), (zj (hj 34) (by decide +kernel)), trivial⟩ (zj (hj 38) (by decide +kernel))
noncomputable def b_X9_count_1 : zBl := fun jp K => oAld 0 <| oGetR 9 22 <| oAld 0 <| oGetI 9 18 <| oXald 10 <| oIret K
theorem s_X9_count_1 (d : Nat) (hG : zGood gh) : zPb l G gh (d + 8) n_X9_count p_X9_count 88 b_X9_count_1 := fun K jp hj =>
    z_aload_n (n := 0) (i := 0) (zd (i := .aload_n 0) (n := 1) (by decide +kernel)) rfl <|
    z_getR (ci := 9) (j := 22) (idx := 43) (zd (i := .getfield 43) (n := 3) (by decide +kernel)) (by decide +kernel) (by decide +kernel) rfl g1150 <|
    z_aload_n (n := 0) (i := 0) (zd (i := .aload_n 0) (n := 1) (by decide +kernel)) rfl <|
    z_getI (ci := 9) (j := 18) (idx := 230) (zd (i := .getfield 230) (n := 3) (by decide +kernel)) (by decide +kernel) (by decide +kernel) rfl g1146 <|
    z_iald (zd (i := .iaload) (n := 1) (by decide +kernel)) <|
    z_iret (zd (i := .ireturn) (n := 1) (by decide +kernel)) rfl
noncomputable def b_X9_count_2 : zBl := fun jp K => oAld 0 <| oGetR 9 25 <| oAld 0 <| oGetI 9 18 <| oXald 10 <| oIret K
theorem s_X9_count_2 (d : Nat) (hG : zGood gh) : zPb l G gh (d + 8) n_X9_count p_X9_count 98 b_X9_count_2 := fun K jp hj =>
    z_aload_n (n := 0) (i := 0) (zd (i := .aload_n 0) (n := 1) (by decide +kernel)) rfl <|
    z_getR (ci := 9) (j := 25) (idx := 52) (zd (i := .getfield 52) (n := 3) (by decide +kernel)) (by decide +kernel) (by decide +kernel) rfl g1153 <|
    z_aload_n (n := 0) (i := 0) (zd (i := .aload_n 0) (n := 1) (by decide +kernel)) rfl <|
    z_getI (ci := 9) (j := 18) (idx := 230) (zd (i := .getfield 230) (n := 3) (by decide +kernel)) (by decide +kernel) (by decide +kernel) rfl g1146 <|
    z_iald (zd (i := .iaload) (n := 1) (by decide +kernel)) <|
    z_iret (zd (i := .ireturn) (n := 1) (by decide +kernel)) rfl
noncomputable def b_X9_count_3 : zBl := fun jp K => oAld 0 <| oGetR 9 49 <| oInt 2147483744 <| oXald 10 <| oIret K
theorem s_X9_count_3 (d : Nat) (hG : zGood gh) : zPb l G gh (d + 8) n_X9_count p_X9_count 108 b_X9_count_3 := fun K jp hj =>
    z_aload_n (n := 0) (i := 0) (zd (i := .aload_n 0) (n := 1) (by decide +kernel)) rfl <|
    z_getR (ci := 9) (j := 49) (idx := 113) (zd (i := .getfield 113) (n := 3) (by decide +kernel)) (by decide +kernel) (by decide +kernel) rfl g1177 <|
    z_bipush (n := 96) (zd (i := .bipush (96)) (n := 2) (by decide +kernel)) (by decide +kernel) <|
    z_iald (zd (i := .iaload) (n := 1) (by decide +kernel)) <|
    z_iret (zd (i := .ireturn) (n := 1) (by decide +kernel)) rfl
noncomputable def b_X9_count_4 : zBl := fun jp K => oAld 0 <| oGetR 9 49 <| oInt 2147483744 <| oXald 10 <| oInt 2147483672 <| oB2z zirem <| oIret K
theorem s_X9_count_4 (d : Nat) (hG : zGood gh) : zPb l G gh (d + 8) n_X9_count p_X9_count 116 b_X9_count_4 := fun K jp hj =>
    z_aload_n (n := 0) (i := 0) (zd (i := .aload_n 0) (n := 1) (by decide +kernel)) rfl <|
    z_getR (ci := 9) (j := 49) (idx := 113) (zd (i := .getfield 113) (n := 3) (by decide +kernel)) (by decide +kernel) (by decide +kernel) rfl g1177 <|
    z_bipush (n := 96) (zd (i := .bipush (96)) (n := 2) (by decide +kernel)) (by decide +kernel) <|
    z_iald (zd (i := .iaload) (n := 1) (by decide +kernel)) <|
    z_bipush (n := 24) (zd (i := .bipush (24)) (n := 2) (by decide +kernel)) (by decide +kernel) <|
    z_irem (zd (i := .irem) (n := 1) (by decide +kernel)) <|
    z_iret (zd (i := .ireturn) (n := 1) (by decide +kernel)) rfl
noncomputable def b_X9_count_5 : zBl := fun jp K => oAld 0 <| oGetR 9 49 <| oInt 2147483744 <| oXald 10 <| oInt 2147483672 <| oB2z zidiv <| oIret K
theorem s_X9_count_5 (d : Nat) (hG : zGood gh) : zPb l G gh (d + 8) n_X9_count p_X9_count 127 b_X9_count_5 := fun K jp hj =>
    z_aload_n (n := 0) (i := 0) (zd (i := .aload_n 0) (n := 1) (by decide +kernel)) rfl <|
    z_getR (ci := 9) (j := 49) (idx := 113) (zd (i := .getfield 113) (n := 3) (by decide +kernel)) (by decide +kernel) (by decide +kernel) rfl g1177 <|
    z_bipush (n := 96) (zd (i := .bipush (96)) (n := 2) (by decide +kernel)) (by decide +kernel) <|
    z_iald (zd (i := .iaload) (n := 1) (by decide +kernel)) <|
    z_bipush (n := 24) (zd (i := .bipush (24)) (n := 2) (by decide +kernel)) (by decide +kernel) <|
    z_idiv (zd (i := .idiv) (n := 1) (by decide +kernel)) <|
    z_iret (zd (i := .ireturn) (n := 1) (by decide +kernel)) rfl
noncomputable def b_X9_count_6 : zBl := fun jp K => oInt 2147483672 <| oIst 3 <| jp 7
theorem s_X9_count_6 (d : Nat) (hG : zGood gh) : zPb l G gh (d + 8) n_X9_count p_X9_count 138 b_X9_count_6 := fun K jp hj =>
    z_bipush (n := 24) (zd (i := .bipush (24)) (n := 2) (by decide +kernel)) (by decide +kernel) <|
    z_istore_n (n := 3) (i := 3) (zd (i := .istore_n 3) (n := 1) (by decide +kernel)) rfl (by decide +kernel) <|
    (zj (hj 7) (by decide +kernel))
noncomputable def b_X9_count_7 : zBl := fun jp K => oNLC 3 2147483708 zgeN zltN zn1_ge zn1_lt (jp 11) (jp 8)
theorem s_X9_count_7 (d : Nat) (hG : zGood gh) : zPb l G gh (d + 8) n_X9_count p_X9_count 141 b_X9_count_7 := fun K jp hj =>
    z_nLC_ge (i := 3) (c0 := 2147483708) (a1 := 1) (a2 := 2) (off := 21) (tgt := 165) (zLd_n (n := 3) (i := 3) (zd (i := .iload_n 3) (n := 1) (by decide +kernel)) rfl) (zCn_b (n := 60) (zd (i := .bipush (60)) (n := 2) (by decide +kernel)) (by decide +kernel)) (zd (i := .if_icmp .ge (21)) (n := 3) (by decide +kernel)) (by decide +kernel) (zj (hj 11) (by decide +kernel)) (zj (hj 8) (by decide +kernel))
noncomputable def b_X9_count_8 : zBl := fun jp K => oAld 0 <| oGetR 9 49 <| oIld 3 <| oXald 10 <| oIf zle zgt (jp 10) (jp 9)
theorem s_X9_count_8 (d : Nat) (hG : zGood gh) : zPb l G gh (d + 8) n_X9_count p_X9_count 147 b_X9_count_8 := fun K jp hj =>
    z_aload_n (n := 0) (i := 0) (zd (i := .aload_n 0) (n := 1) (by decide +kernel)) rfl <|
    z_getR (ci := 9) (j := 49) (idx := 113) (zd (i := .getfield 113) (n := 3) (by decide +kernel)) (by decide +kernel) (by decide +kernel) rfl g1177 <|
    z_iload_n (n := 3) (i := 3) (zd (i := .iload_n 3) (n := 1) (by decide +kernel)) rfl <|
    z_iald (zd (i := .iaload) (n := 1) (by decide +kernel)) <|
    z_if_le (off := 6) (tgt := 159) (zd (i := .ifCond .le (6)) (n := 3) (by decide +kernel)) (by decide +kernel) (zj (hj 10) (by decide +kernel)) (zj (hj 9) (by decide +kernel))
noncomputable def b_X9_count_9 : zBl := fun jp K => oInc 2 2147483649 <| jp 10
theorem s_X9_count_9 (d : Nat) (hG : zGood gh) : zPb l G gh (d + 8) n_X9_count p_X9_count 156 b_X9_count_9 := fun K jp hj =>
    z_iinc (i := 2) (n := 1) (zd (i := .iinc 2 (1)) (n := 3) (by decide +kernel)) (by decide +kernel) (by decide +kernel) <|
    (zj (hj 10) (by decide +kernel))
noncomputable def b_X9_count_10 : zBl := fun jp K => oInc 3 2147483649 <| jp 7
theorem s_X9_count_10 (d : Nat) (hG : zGood gh) : zPb l G gh (d + 8) n_X9_count p_X9_count 159 b_X9_count_10 := fun K jp hj =>
    z_iinc (i := 3) (n := 1) (zd (i := .iinc 3 (1)) (n := 3) (by decide +kernel)) (by decide +kernel) (by decide +kernel) <|
    z_goto (off := -21) (tgt := 141) (zd (i := .goto (-21)) (n := 3) (by decide +kernel)) (by decide +kernel) (zj (hj 7) (by decide +kernel))
noncomputable def b_X9_count_11 : zBl := fun jp K => oIld 2 <| oIret K
theorem s_X9_count_11 (d : Nat) (hG : zGood gh) : zPb l G gh (d + 8) n_X9_count p_X9_count 165 b_X9_count_11 := fun K jp hj =>
    z_iload_n (n := 2) (i := 2) (zd (i := .iload_n 2) (n := 1) (by decide +kernel)) rfl <|
    z_iret (zd (i := .ireturn) (n := 1) (by decide +kernel)) rfl
noncomputable def b_X9_count_12 : zBl := fun jp K => oAld 0 <| oInt 2147483672 <| oInt 2147483684 <| oCv 9 2 gs_X9_sumNow <| oIret K
theorem s_X9_count_12 (d : Nat) (hG : zGood gh) : zPb l G gh (d + 8) n_X9_count p_X9_count 167 b_X9_count_12 := fun K jp hj =>
    z_aload_n (n := 0) (i := 0) (zd (i := .aload_n 0) (n := 1) (by decide +kernel)) rfl <|
    z_bipush (n := 24) (zd (i := .bipush (24)) (n := 2) (by decide +kernel)) (by decide +kernel) <|
    z_bipush (n := 36) (zd (i := .bipush (36)) (n := 2) (by decide +kernel)) (by decide +kernel) <|
    z_callV (idx := 431) (ci := 9) (N := n_X9_sumNow) (zd (i := .invokevirtual 431) (n := 3) (by decide +kernel)) to_X9_sumNow g1709 g1711 g95 (by decide +kernel) rfl rfl rfl (cs_X9_sumNow (l := l) (G := G) (gh := gh) (d + 6)) <|
    z_iret (zd (i := .ireturn) (n := 1) (by decide +kernel)) rfl
noncomputable def b_X9_count_13 : zBl := fun jp K => oAld 0 <| oInt 2147483654 <| oInt 2147483654 <| oCv 9 2 gs_X9_sumNow <| oIret K
theorem s_X9_count_13 (d : Nat) (hG : zGood gh) : zPb l G gh (d + 8) n_X9_count p_X9_count 176 b_X9_count_13 := fun K jp hj =>
    z_aload_n (n := 0) (i := 0) (zd (i := .aload_n 0) (n := 1) (by decide +kernel)) rfl <|
    z_bipush (n := 6) (zd (i := .bipush (6)) (n := 2) (by decide +kernel)) (by decide +kernel) <|
    z_bipush (n := 6) (zd (i := .bipush (6)) (n := 2) (by decide +kernel)) (by decide +kernel) <|
    z_callV (idx := 431) (ci := 9) (N := n_X9_sumNow) (zd (i := .invokevirtual 431) (n := 3) (by decide +kernel)) to_X9_sumNow g1709 g1711 g95 (by decide +kernel) rfl rfl rfl (cs_X9_sumNow (l := l) (G := G) (gh := gh) (d + 6)) <|
    z_iret (zd (i := .ireturn) (n := 1) (by decide +kernel)) rfl
noncomputable def b_X9_count_14 : zBl := fun jp K => oAld 0 <| oInt 2147483660 <| oInt 2147483654 <| oCv 9 2 gs_X9_sumNow <| oIret K
theorem s_X9_count_14 (d : Nat) (hG : zGood gh) : zPb l G gh (d + 8) n_X9_count p_X9_count 185 b_X9_count_14 := fun K jp hj =>
    z_aload_n (n := 0) (i := 0) (zd (i := .aload_n 0) (n := 1) (by decide +kernel)) rfl <|
    z_bipush (n := 12) (zd (i := .bipush (12)) (n := 2) (by decide +kernel)) (by decide +kernel) <|
    z_bipush (n := 6) (zd (i := .bipush (6)) (n := 2) (by decide +kernel)) (by decide +kernel) <|
    z_callV (idx := 431) (ci := 9) (N := n_X9_sumNow) (zd (i := .invokevirtual 431) (n := 3) (by decide +kernel)) to_X9_sumNow g1709 g1711 g95 (by decide +kernel) rfl rfl rfl (cs_X9_sumNow (l := l) (G := G) (gh := gh) (d + 6)) <|
    z_iret (zd (i := .ireturn) (n := 1) (by decide +kernel)) rfl
noncomputable def b_X9_count_15 : zBl := fun jp K => oAld 0 <| oGetI 9 2 <| oIret K
theorem s_X9_count_15 (d : Nat) (hG : zGood gh) : zPb l G gh (d + 8) n_X9_count p_X9_count 194 b_X9_count_15 := fun K jp hj =>
    z_aload_n (n := 0) (i := 0) (zd (i := .aload_n 0) (n := 1) (by decide +kernel)) rfl <|
    z_getI (ci := 9) (j := 2) (idx := 167) (zd (i := .getfield 167) (n := 3) (by decide +kernel)) (by decide +kernel) (by decide +kernel) rfl g1130 <|
    z_iret (zd (i := .ireturn) (n := 1) (by decide +kernel)) rfl
noncomputable def b_X9_count_16 : zBl := fun jp K => oAld 0 <| oGetI 9 51 <| oIret K
theorem s_X9_count_16 (d : Nat) (hG : zGood gh) : zPb l G gh (d + 8) n_X9_count p_X9_count 199 b_X9_count_16 := fun K jp hj =>
    z_aload_n (n := 0) (i := 0) (zd (i := .aload_n 0) (n := 1) (by decide +kernel)) rfl <|
    z_getI (ci := 9) (j := 51) (idx := 248) (zd (i := .getfield 248) (n := 3) (by decide +kernel)) (by decide +kernel) (by decide +kernel) rfl g1179 <|
    z_iret (zd (i := .ireturn) (n := 1) (by decide +kernel)) rfl
noncomputable def b_X9_count_17 : zBl := fun jp K => oAld 0 <| oGetI 9 58 <| oIret K
theorem s_X9_count_17 (d : Nat) (hG : zGood gh) : zPb l G gh (d + 8) n_X9_count p_X9_count 204 b_X9_count_17 := fun K jp hj =>
    z_aload_n (n := 0) (i := 0) (zd (i := .aload_n 0) (n := 1) (by decide +kernel)) rfl <|
    z_getI (ci := 9) (j := 58) (idx := 251) (zd (i := .getfield 251) (n := 3) (by decide +kernel)) (by decide +kernel) (by decide +kernel) rfl g1186 <|
    z_iret (zd (i := .ireturn) (n := 1) (by decide +kernel)) rfl
noncomputable def b_X9_count_18 : zBl := fun jp K => oAld 0 <| oGetR 9 63 <| oInt 2147483648 <| oXald 12 <| oIf zeq zne (jp 20) (jp 19)
theorem s_X9_count_18 (d : Nat) (hG : zGood gh) : zPb l G gh (d + 8) n_X9_count p_X9_count 209 b_X9_count_18 := fun K jp hj =>
    z_aload_n (n := 0) (i := 0) (zd (i := .aload_n 0) (n := 1) (by decide +kernel)) rfl <|
    z_getR (ci := 9) (j := 63) (idx := 143) (zd (i := .getfield 143) (n := 3) (by decide +kernel)) (by decide +kernel) (by decide +kernel) rfl g1191 <|
    z_iconst (n := 0) (zd (i := .iconst (0)) (n := 1) (by decide +kernel)) (by decide +kernel) <|
    z_zald (zd (i := .baload) (n := 1) (by decide +kernel)) <|
    z_if_eq (off := 7) (tgt := 222) (zd (i := .ifCond .eq (7)) (n := 3) (by decide +kernel)) (by decide +kernel) (zj (hj 20) (by decide +kernel)) (zj (hj 19) (by decide +kernel))
noncomputable def b_X9_count_19 : zBl := fun jp K => oInt 2147483649 <| jp 21
theorem s_X9_count_19 (d : Nat) (hG : zGood gh) : zPb l G gh (d + 8) n_X9_count p_X9_count 218 b_X9_count_19 := fun K jp hj =>
    z_iconst (n := 1) (zd (i := .iconst (1)) (n := 1) (by decide +kernel)) (by decide +kernel) <|
    z_goto (off := 4) (tgt := 223) (zd (i := .goto (4)) (n := 3) (by decide +kernel)) (by decide +kernel) (zj (hj 21) (by decide +kernel))
noncomputable def b_X9_count_20 : zBl := fun jp K => oInt 2147483648 <| jp 21
theorem s_X9_count_20 (d : Nat) (hG : zGood gh) : zPb l G gh (d + 8) n_X9_count p_X9_count 222 b_X9_count_20 := fun K jp hj =>
    z_iconst (n := 0) (zd (i := .iconst (0)) (n := 1) (by decide +kernel)) (by decide +kernel) <|
    (zj (hj 21) (by decide +kernel))
noncomputable def b_X9_count_21 : zBl := fun jp K => oAld 0 <| oGetR 9 63 <| oInt 2147483649 <| oXald 12 <| oIf zeq zne (jp 23) (jp 22)
theorem s_X9_count_21 (d : Nat) (hG : zGood gh) : zPb l G gh (d + 8) n_X9_count p_X9_count 223 b_X9_count_21 := fun K jp hj =>
    z_aload_n (n := 0) (i := 0) (zd (i := .aload_n 0) (n := 1) (by decide +kernel)) rfl <|
    z_getR (ci := 9) (j := 63) (idx := 143) (zd (i := .getfield 143) (n := 3) (by decide +kernel)) (by decide +kernel) (by decide +kernel) rfl g1191 <|
    z_iconst (n := 1) (zd (i := .iconst (1)) (n := 1) (by decide +kernel)) (by decide +kernel) <|
    z_zald (zd (i := .baload) (n := 1) (by decide +kernel)) <|
    z_if_eq (off := 7) (tgt := 236) (zd (i := .ifCond .eq (7)) (n := 3) (by decide +kernel)) (by decide +kernel) (zj (hj 23) (by decide +kernel)) (zj (hj 22) (by decide +kernel))
noncomputable def b_X9_count_22 : zBl := fun jp K => oInt 2147483649 <| jp 24
theorem s_X9_count_22 (d : Nat) (hG : zGood gh) : zPb l G gh (d + 8) n_X9_count p_X9_count 232 b_X9_count_22 := fun K jp hj =>
    z_iconst (n := 1) (zd (i := .iconst (1)) (n := 1) (by decide +kernel)) (by decide +kernel) <|
    z_goto (off := 4) (tgt := 237) (zd (i := .goto (4)) (n := 3) (by decide +kernel)) (by decide +kernel) (zj (hj 24) (by decide +kernel))
noncomputable def b_X9_count_23 : zBl := fun jp K => oInt 2147483648 <| jp 24
theorem s_X9_count_23 (d : Nat) (hG : zGood gh) : zPb l G gh (d + 8) n_X9_count p_X9_count 236 b_X9_count_23 := fun K jp hj =>
    z_iconst (n := 0) (zd (i := .iconst (0)) (n := 1) (by decide +kernel)) (by decide +kernel) <|
    (zj (hj 24) (by decide +kernel))
noncomputable def b_X9_count_24 : zBl := fun jp K => oB2 zadd <| oAld 0 <| oGetR 9 63 <| oInt 2147483650 <| oXald 12 <| oIf zeq zne (jp 26) (jp 25)
theorem s_X9_count_24 (d : Nat) (hG : zGood gh) : zPb l G gh (d + 8) n_X9_count p_X9_count 237 b_X9_count_24 := fun K jp hj =>
    z_iadd (zd (i := .iadd) (n := 1) (by decide +kernel)) <|
    z_aload_n (n := 0) (i := 0) (zd (i := .aload_n 0) (n := 1) (by decide +kernel)) rfl <|
    z_getR (ci := 9) (j := 63) (idx := 143) (zd (i := .getfield 143) (n := 3) (by decide +kernel)) (by decide +kernel) (by decide +kernel) rfl g1191 <|
    z_iconst (n := 2) (zd (i := .iconst (2)) (n := 1) (by decide +kernel)) (by decide +kernel) <|
    z_zald (zd (i := .baload) (n := 1) (by decide +kernel)) <|
    z_if_eq (off := 7) (tgt := 251) (zd (i := .ifCond .eq (7)) (n := 3) (by decide +kernel)) (by decide +kernel) (zj (hj 26) (by decide +kernel)) (zj (hj 25) (by decide +kernel))
noncomputable def b_X9_count_25 : zBl := fun jp K => oInt 2147483649 <| jp 27
theorem s_X9_count_25 (d : Nat) (hG : zGood gh) : zPb l G gh (d + 8) n_X9_count p_X9_count 247 b_X9_count_25 := fun K jp hj =>
    z_iconst (n := 1) (zd (i := .iconst (1)) (n := 1) (by decide +kernel)) (by decide +kernel) <|
    z_goto (off := 4) (tgt := 252) (zd (i := .goto (4)) (n := 3) (by decide +kernel)) (by decide +kernel) (zj (hj 27) (by decide +kernel))
noncomputable def b_X9_count_26 : zBl := fun jp K => oInt 2147483648 <| jp 27
theorem s_X9_count_26 (d : Nat) (hG : zGood gh) : zPb l G gh (d + 8) n_X9_count p_X9_count 251 b_X9_count_26 := fun K jp hj =>
    z_iconst (n := 0) (zd (i := .iconst (0)) (n := 1) (by decide +kernel)) (by decide +kernel) <|
    (zj (hj 27) (by decide +kernel))
noncomputable def b_X9_count_27 : zBl := fun jp K => oB2 zadd <| oIret K
theorem s_X9_count_27 (d : Nat) (hG : zGood gh) : zPb l G gh (d + 8) n_X9_count p_X9_count 252 b_X9_count_27 := fun K jp hj =>
    z_iadd (zd (i := .iadd) (n := 1) (by decide +kernel)) <|
    z_iret (zd (i := .ireturn) (n := 1) (by decide +kernel)) rfl
noncomputable def b_X9_count_28 : zBl := fun jp K => oAld 0 <| oCv 9 0 f_X9_isWind <| oIf zeq zne (jp 30) (jp 29)
theorem s_X9_count_28 (d : Nat) (hG : zGood gh) : zPb l G gh (d + 8) n_X9_count p_X9_count 254 b_X9_count_28 := fun K jp hj =>
    z_aload_n (n := 0) (i := 0) (zd (i := .aload_n 0) (n := 1) (by decide +kernel)) rfl <|
    z_callV (idx := 361) (ci := 9) (N := n_X9_isWind) (zd (i := .invokevirtual 361) (n := 3) (by decide +kernel)) to_X9_isWind g1554 g1556 g84 (by decide +kernel) rfl rfl rfl (c_X9_isWind (l := l) (G := G) (gh := gh) (d + 5)) <|
    z_if_eq (off := 7) (tgt := 265) (zd (i := .ifCond .eq (7)) (n := 3) (by decide +kernel)) (by decide +kernel) (zj (hj 30) (by decide +kernel)) (zj (hj 29) (by decide +kernel))
noncomputable def b_X9_count_29 : zBl := fun jp K => oInt 2147483649 <| jp 31
theorem s_X9_count_29 (d : Nat) (hG : zGood gh) : zPb l G gh (d + 8) n_X9_count p_X9_count 261 b_X9_count_29 := fun K jp hj =>
    z_iconst (n := 1) (zd (i := .iconst (1)) (n := 1) (by decide +kernel)) (by decide +kernel) <|
    z_goto (off := 4) (tgt := 266) (zd (i := .goto (4)) (n := 3) (by decide +kernel)) (by decide +kernel) (zj (hj 31) (by decide +kernel))
noncomputable def b_X9_count_30 : zBl := fun jp K => oInt 2147483648 <| jp 31
theorem s_X9_count_30 (d : Nat) (hG : zGood gh) : zPb l G gh (d + 8) n_X9_count p_X9_count 265 b_X9_count_30 := fun K jp hj =>
    z_iconst (n := 0) (zd (i := .iconst (0)) (n := 1) (by decide +kernel)) (by decide +kernel) <|
    (zj (hj 31) (by decide +kernel))
noncomputable def b_X9_count_31 : zBl := fun jp K => oIret K
theorem s_X9_count_31 (d : Nat) (hG : zGood gh) : zPb l G gh (d + 8) n_X9_count p_X9_count 266 b_X9_count_31 := fun K jp hj =>
    z_iret (zd (i := .ireturn) (n := 1) (by decide +kernel)) rfl
noncomputable def b_X9_count_32 : zBl := fun jp K => oAld 0 <| oInt 2147483666 <| oInt 2147483654 <| oCv 9 2 gs_X9_sumNow <| oIret K
theorem s_X9_count_32 (d : Nat) (hG : zGood gh) : zPb l G gh (d + 8) n_X9_count p_X9_count 267 b_X9_count_32 := fun K jp hj =>
    z_aload_n (n := 0) (i := 0) (zd (i := .aload_n 0) (n := 1) (by decide +kernel)) rfl <|
    z_bipush (n := 18) (zd (i := .bipush (18)) (n := 2) (by decide +kernel)) (by decide +kernel) <|
    z_bipush (n := 6) (zd (i := .bipush (6)) (n := 2) (by decide +kernel)) (by decide +kernel) <|
    z_callV (idx := 431) (ci := 9) (N := n_X9_sumNow) (zd (i := .invokevirtual 431) (n := 3) (by decide +kernel)) to_X9_sumNow g1709 g1711 g95 (by decide +kernel) rfl rfl rfl (cs_X9_sumNow (l := l) (G := G) (gh := gh) (d + 6)) <|
    z_iret (zd (i := .ireturn) (n := 1) (by decide +kernel)) rfl
noncomputable def b_X9_count_33 : zBl := fun jp K => oAld 0 <| oAld 0 <| oGetR 9 49 <| oInt 2147483744 <| oXald 10 <| oCv 9 1 gs_X9_heatAt <| oIret K
theorem s_X9_count_33 (d : Nat) (hG : zGood gh) : zPb l G gh (d + 8) n_X9_count p_X9_count 276 b_X9_count_33 := fun K jp hj =>
    z_aload_n (n := 0) (i := 0) (zd (i := .aload_n 0) (n := 1) (by decide +kernel)) rfl <|
    z_aload_n (n := 0) (i := 0) (zd (i := .aload_n 0) (n := 1) (by decide +kernel)) rfl <|
    z_getR (ci := 9) (j := 49) (idx := 113) (zd (i := .getfield 113) (n := 3) (by decide +kernel)) (by decide +kernel) (by decide +kernel) rfl g1177 <|
    z_bipush (n := 96) (zd (i := .bipush (96)) (n := 2) (by decide +kernel)) (by decide +kernel) <|
    z_iald (zd (i := .iaload) (n := 1) (by decide +kernel)) <|
    z_callV (idx := 327) (ci := 9) (N := n_X9_heatAt) (zd (i := .invokevirtual 327) (n := 3) (by decide +kernel)) to_X9_heatAt g1461 g1463 g71 (by decide +kernel) rfl rfl rfl (cs_X9_heatAt (l := l) (G := G) (gh := gh) (d + 4) hG) <|
    z_iret (zd (i := .ireturn) (n := 1) (by decide +kernel)) rfl
noncomputable def b_X9_count_34 : zBl := fun jp K => oInt 2147483648 <| oIst 3 <| jp 35
theorem s_X9_count_34 (d : Nat) (hG : zGood gh) : zPb l G gh (d + 8) n_X9_count p_X9_count 288 b_X9_count_34 := fun K jp hj =>
    z_iconst (n := 0) (zd (i := .iconst (0)) (n := 1) (by decide +kernel)) (by decide +kernel) <|
    z_istore_n (n := 3) (i := 3) (zd (i := .istore_n 3) (n := 1) (by decide +kernel)) rfl (by decide +kernel) <|
    (zj (hj 35) (by decide +kernel))
noncomputable def b_X9_count_35 : zBl := fun jp K => oIld 3 <| oAld 0 <| oGetR 9 25 <| oAld 0 <| oGetI 9 18 <| oXald 10 <| oIc zge zlt (jp 37) (jp 36)
theorem s_X9_count_35 (d : Nat) (hG : zGood gh) : zPb l G gh (d + 8) n_X9_count p_X9_count 290 b_X9_count_35 := fun K jp hj =>
    z_iload_n (n := 3) (i := 3) (zd (i := .iload_n 3) (n := 1) (by decide +kernel)) rfl <|
    z_aload_n (n := 0) (i := 0) (zd (i := .aload_n 0) (n := 1) (by decide +kernel)) rfl <|
    z_getR (ci := 9) (j := 25) (idx := 52) (zd (i := .getfield 52) (n := 3) (by decide +kernel)) (by decide +kernel) (by decide +kernel) rfl g1153 <|
    z_aload_n (n := 0) (i := 0) (zd (i := .aload_n 0) (n := 1) (by decide +kernel)) rfl <|
    z_getI (ci := 9) (j := 18) (idx := 230) (zd (i := .getfield 230) (n := 3) (by decide +kernel)) (by decide +kernel) (by decide +kernel) rfl g1146 <|
    z_iald (zd (i := .iaload) (n := 1) (by decide +kernel)) <|
    z_icmp_ge (off := 17) (tgt := 317) (zd (i := .if_icmp .ge (17)) (n := 3) (by decide +kernel)) (by decide +kernel) (zj (hj 37) (by decide +kernel)) (zj (hj 36) (by decide +kernel))
noncomputable def b_X9_count_36 : zBl := fun jp K => oIld 2 <| oAld 0 <| oIld 3 <| oCv 9 1 gs_X9_seesBits <| oB2 zior <| oIst 2 <| oInc 3 2147483649 <| jp 35
theorem s_X9_count_36 (d : Nat) (hG : zGood gh) : zPb l G gh (d + 8) n_X9_count p_X9_count 303 b_X9_count_36 := fun K jp hj =>
    z_iload_n (n := 2) (i := 2) (zd (i := .iload_n 2) (n := 1) (by decide +kernel)) rfl <|
    z_aload_n (n := 0) (i := 0) (zd (i := .aload_n 0) (n := 1) (by decide +kernel)) rfl <|
    z_iload_n (n := 3) (i := 3) (zd (i := .iload_n 3) (n := 1) (by decide +kernel)) rfl <|
    z_callV (idx := 381) (ci := 9) (N := n_X9_seesBits) (zd (i := .invokevirtual 381) (n := 3) (by decide +kernel)) to_X9_seesBits g1491 g1493 g76 (by decide +kernel) rfl rfl rfl (cs_X9_seesBits (l := l) (G := G) (gh := gh) (d) hG) <|
    z_ior (zd (i := .ior) (n := 1) (by decide +kernel)) <|
    z_istore_n (n := 2) (i := 2) (zd (i := .istore_n 2) (n := 1) (by decide +kernel)) rfl (by decide +kernel) <|
    z_iinc (i := 3) (n := 1) (zd (i := .iinc 3 (1)) (n := 3) (by decide +kernel)) (by decide +kernel) (by decide +kernel) <|
    z_goto (off := -24) (tgt := 290) (zd (i := .goto (-24)) (n := 3) (by decide +kernel)) (by decide +kernel) (zj (hj 35) (by decide +kernel))
noncomputable def b_X9_count_37 : zBl := fun jp K => oIld 2 <| oIret K
theorem s_X9_count_37 (d : Nat) (hG : zGood gh) : zPb l G gh (d + 8) n_X9_count p_X9_count 317 b_X9_count_37 := fun K jp hj =>
    z_iload_n (n := 2) (i := 2) (zd (i := .iload_n 2) (n := 1) (by decide +kernel)) rfl <|
    z_iret (zd (i := .ireturn) (n := 1) (by decide +kernel)) rfl
noncomputable def b_X9_count_38 : zBl := fun jp K => oInt 2147483647 <| oIret K
theorem s_X9_count_38 (d : Nat) (hG : zGood gh) : zPb l G gh (d + 8) n_X9_count p_X9_count 319 b_X9_count_38 := fun K jp hj =>
    z_iconst (n := -1) (zd (i := .iconst (-1)) (n := 1) (by decide +kernel)) (by decide +kernel) <|
    z_iret (zd (i := .ireturn) (n := 1) (by decide +kernel)) rfl
noncomputable def t_X9_count : List zBl := [b_X9_count_0, b_X9_count_1, b_X9_count_2, b_X9_count_3, b_X9_count_4, b_X9_count_5, b_X9_count_6, b_X9_count_7, b_X9_count_8, b_X9_count_9, b_X9_count_10, b_X9_count_11, b_X9_count_12, b_X9_count_13, b_X9_count_14, b_X9_count_15, b_X9_count_16, b_X9_count_17, b_X9_count_18, b_X9_count_19, b_X9_count_20, b_X9_count_21, b_X9_count_22, b_X9_count_23, b_X9_count_24, b_X9_count_25, b_X9_count_26, b_X9_count_27, b_X9_count_28, b_X9_count_29, b_X9_count_30, b_X9_count_31, b_X9_count_32, b_X9_count_33, b_X9_count_34, b_X9_count_35, b_X9_count_36, b_X9_count_37, b_X9_count_38]
theorem tt_X9_count (d : Nat) (hG : zGood gh) : zT (zPb l G gh (d + 8) n_X9_count p_X9_count) t_X9_count p_X9_count := ⟨s_X9_count_0 d hG, s_X9_count_1 d hG, s_X9_count_2 d hG, s_X9_count_3 d hG, s_X9_count_4 d hG, s_X9_count_5 d hG, s_X9_count_6 d hG, s_X9_count_7 d hG, s_X9_count_8 d hG, s_X9_count_9 d hG, s_X9_count_10 d hG, s_X9_count_11 d hG, s_X9_count_12 d hG, s_X9_count_13 d hG, s_X9_count_14 d hG, s_X9_count_15 d hG, s_X9_count_16 d hG, s_X9_count_17 d hG, s_X9_count_18 d hG, s_X9_count_19 d hG, s_X9_count_20 d hG, s_X9_count_21 d hG, s_X9_count_22 d hG, s_X9_count_23 d hG, s_X9_count_24 d hG, s_X9_count_25 d hG, s_X9_count_26 d hG, s_X9_count_27 d hG, s_X9_count_28 d hG, s_X9_count_29 d hG, s_X9_count_30 d hG, s_X9_count_31 d hG, s_X9_count_32 d hG, s_X9_count_33 d hG, s_X9_count_34 d hG, s_X9_count_35 d hG, s_X9_count_36 d hG, s_X9_count_37 d hG, s_X9_count_38 d hG, trivial⟩
def q_X9_count_0 : List (Nat × Nat) := [(292, zk102), (301, zk107), (302, zk111), (303, zk111), (304, zk107), (308, zk103), (310, zk103), (321, zk3), (322, zk116), (323, zk104), (324, zk104), (334, zk13)]
noncomputable def al_X9_count_0 : zAq := [(some (.inl 8589934591), [(292, zk105), (301, zk107), (302, zk111), (303, zk111), (304, zk107), (308, zk103), (310, zk103), (321, zk4), (322, zk117), (323, zk104), (324, zk106), (334, zk13)])]
def mq_X9_count_0_1 : List (Nat × Nat) := [(292, zk105), (301, zk107), (302, zk111), (303, zk111), (304, zk107), (308, zk103), (310, zk103), (321, zk3), (322, zk116), (323, zk104), (324, zk106), (334, zk13)]
def mq_X9_count_0_2 : List (Nat × Nat) := [(292, zk105), (301, zk107), (302, zk111), (303, zk111), (304, zk107), (308, zk103), (310, zk103), (321, zk4), (322, zk117), (323, zk104), (324, zk106), (334, zk13)]
noncomputable def fm_X9_count_0 : List zFm := [(0, [], (fun vs => [.inr (.ref 292), .inl 8589934591]), (fun vs => zP q_X9_count_0), (fun vs => Nat.sub (Nat.add 122 0) 0)),
  (7, [(3, 2147483672, 2147483708)], (fun vs => [.inr (.ref 292), .inl 8589934591, .inl 8589934591, .inl (zn 0 vs 0)]), (fun vs => zP mq_X9_count_0_1), (fun vs => Nat.sub (Nat.add 2147483769 0) (Nat.add 0 (Nat.mul 1 (zn 0 vs 0))))),
  (35, [(3, 2147483648, 2147483654)], (fun vs => [.inr (.ref 292), .inl 8589934591, .inl 9223372043297226815, .inl (zn 0 vs 0)]), (fun vs => zP mq_X9_count_0_2), (fun vs => Nat.sub (Nat.add 2147483708 0) (Nat.add 0 (Nat.mul 1 (zn 0 vs 0)))))]
def bf_X9_count_0 : List Nat := [0, 0, 0, 0, 0, 0, 0, 2, 0, 0, 0, 0, 0, 0, 0, 0, 0, 0, 0, 0, 0, 0, 0, 0, 0, 0, 0, 0, 0, 0, 0, 0, 0, 0, 0, 3]
theorem r_X9_count_0_0 : zbox [] (fun vs => zFrun (zpost (zAlq al_X9_count_0)) 1000 t_X9_count fm_X9_count_0 bf_X9_count_0 (0, vs)) = true := by decide +kernel
theorem r_X9_count_0_1 : zbox [(3, 2147483672, 2147483708)] (fun vs => zFrun (zpost (zAlq al_X9_count_0)) 1000 t_X9_count fm_X9_count_0 bf_X9_count_0 (1, vs)) = true := by decide +kernel
theorem r_X9_count_0_2 : zbox [(3, 2147483648, 2147483654)] (fun vs => zFrun (zpost (zAlq al_X9_count_0)) 1000 t_X9_count fm_X9_count_0 bf_X9_count_0 (2, vs)) = true := by decide +kernel
set_option maxRecDepth 100000 in
theorem x_X9_count_0 (d : Nat) (hG : zGood gh) : zS l G gh (d + 8) (zpost (zAlq al_X9_count_0)) n_X9_count (zn 0 p_X9_count 0) (zwc (0, [.inr (.ref 292), .inl 8589934591], zP q_X9_count_0) 0) := zentry (tt_X9_count d hG) fm_X9_count_0 bf_X9_count_0 1000 (by decide +kernel) rfl ⟨Nat.zero_lt_succ _, trivial⟩ (fun f hf => match f, hf with
  | 0, _ => fun vs hv => (zbox_t r_X9_count_0_0) vs hv
  | 1, _ => fun vs hv => (zbox_t r_X9_count_0_1) vs hv
  | 2, _ => fun vs hv => (zbox_t r_X9_count_0_2) vs hv
  | f + 3, h => absurd (show f + 3 < 3 from h) (Nat.not_lt.mpr (Nat.le_add_left 3 f)))
noncomputable def gs_X9_count_0 : zMt := zgq true zUN 4 [.inr (.ref 292), .inl 8589934591] q_X9_count_0 al_X9_count_0
set_option maxRecDepth 100000 in
theorem cs_X9_count_0 (d : Nat) (hG : zGood gh) : zC l G gh (d + 8) n_X9_count gs_X9_count_0 := zgq_ok zGood_ok (pcs := p_X9_count) (by decide) rfl rfl (fun a ha => by simp only [al_X9_count_0, List.mem_cons, List.not_mem_nil, or_false] at ha; rcases ha with rfl <;> decide +kernel) (fun gh hG => x_X9_count_0 d hG) (by decide +kernel) hG
noncomputable def gs_X9_count : zMt := gs_X9_count_0
theorem cs_X9_count (d : Nat) (hG : zGood gh) : zC l G gh (d + 8) n_X9_count gs_X9_count := (cs_X9_count_0 d hG)
def p_X9_goes : List Nat := [0, 2, 7, 17]
noncomputable def b_X9_goes_0 : zBl := fun jp K => oInt 2147483648 <| oIst 2 <| jp 1
theorem s_X9_goes_0 (d : Nat) (hG : zGood gh) : zPb l G gh (d + 9) n_X9_goes p_X9_goes 0 b_X9_goes_0 := fun K jp hj =>
    z_iconst (n := 0) (zd (i := .iconst (0)) (n := 1) (by decide +kernel)) (by decide +kernel) <|
    z_istore_n (n := 2) (i := 2) (zd (i := .istore_n 2) (n := 1) (by decide +kernel)) rfl (by decide +kernel) <|
    (zj (hj 1) (by decide +kernel))
noncomputable def b_X9_goes_1 : zBl := fun jp K => oNLL 2 1 zgeN zltN zn1_ge zn2_ge zn1_lt zn2_lt (jp 3) (jp 2)
theorem s_X9_goes_1 (d : Nat) (hG : zGood gh) : zPb l G gh (d + 9) n_X9_goes p_X9_goes 2 b_X9_goes_1 := fun K jp hj =>
    z_nLL_ge (i := 2) (j := 1) (a1 := 1) (a2 := 1) (off := 13) (tgt := 17) (zLd_n (n := 2) (i := 2) (zd (i := .iload_n 2) (n := 1) (by decide +kernel)) rfl) (zLd_n (n := 1) (i := 1) (zd (i := .iload_n 1) (n := 1) (by decide +kernel)) rfl) (zd (i := .if_icmp .ge (13)) (n := 3) (by decide +kernel)) (by decide +kernel) (zj (hj 3) (by decide +kernel)) (zj (hj 2) (by decide +kernel))
noncomputable def b_X9_goes_2 : zBl := fun jp K => oAld 0 <| oCv 9 0 gs_X9_hourGoes <| oInc 2 2147483649 <| jp 1
theorem s_X9_goes_2 (d : Nat) (hG : zGood gh) : zPb l G gh (d + 9) n_X9_goes p_X9_goes 7 b_X9_goes_2 := fun K jp hj =>
    z_aload_n (n := 0) (i := 0) (zd (i := .aload_n 0) (n := 1) (by decide +kernel)) rfl <|
    z_callV (idx := 369) (ci := 9) (N := n_X9_hourGoes) (zd (i := .invokevirtual 369) (n := 3) (by decide +kernel)) to_X9_hourGoes g1550 g1552 g83 (by decide +kernel) rfl rfl rfl (cs_X9_hourGoes (l := l) (G := G) (gh := gh) (d) hG) <|
    z_iinc (i := 2) (n := 1) (zd (i := .iinc 2 (1)) (n := 3) (by decide +kernel)) (by decide +kernel) (by decide +kernel) <|
    z_goto (off := -12) (tgt := 2) (zd (i := .goto (-12)) (n := 3) (by decide +kernel)) (by decide +kernel) (zj (hj 1) (by decide +kernel))
noncomputable def b_X9_goes_3 : zBl := fun jp K => oVret K
theorem s_X9_goes_3 (d : Nat) (hG : zGood gh) : zPb l G gh (d + 9) n_X9_goes p_X9_goes 17 b_X9_goes_3 := fun K jp hj =>
    z_vret (zd (i := .return_) (n := 1) (by decide +kernel)) rfl
noncomputable def t_X9_goes : List zBl := [b_X9_goes_0, b_X9_goes_1, b_X9_goes_2, b_X9_goes_3]
theorem tt_X9_goes (d : Nat) (hG : zGood gh) : zT (zPb l G gh (d + 9) n_X9_goes p_X9_goes) t_X9_goes p_X9_goes := ⟨s_X9_goes_0 d hG, s_X9_goes_1 d hG, s_X9_goes_2 d hG, s_X9_goes_3 d hG, trivial⟩
def q_X9_goes_0 : List (Nat × Nat) := [(292, zk102), (301, zk107), (302, zk111), (303, zk111), (304, zk107), (307, zk103), (308, zk103), (321, zk3), (322, zk116), (324, zk104)]
noncomputable def al_X9_goes_0 : zAq := [(none, [(292, zk105), (301, zk107), (302, zk111), (303, zk111), (304, zk107), (307, zk103), (308, zk103), (321, zk4), (322, zk117), (324, zk106)])]
def mq_X9_goes_0_1 : List (Nat × Nat) := [(292, zk105), (301, zk107), (302, zk111), (303, zk111), (304, zk107), (307, zk103), (308, zk103), (321, zk4), (322, zk117), (324, zk106)]
noncomputable def fm_X9_goes_0 : List zFm := [(0, [], (fun vs => [.inr (.ref 292), .inl 9223372043297226800]), (fun vs => zP q_X9_goes_0), (fun vs => Nat.sub (Nat.add 49 0) 0)),
  (1, [(2, 2147483648, 2147483696)], (fun vs => [.inr (.ref 292), .inl 9223372043297226800, .inl (zn 0 vs 0)]), (fun vs => zP mq_X9_goes_0_1), (fun vs => Nat.sub (Nat.add 2147483696 0) (Nat.add 0 (Nat.mul 1 (zn 0 vs 0)))))]
def bf_X9_goes_0 : List Nat := [0, 2]
theorem r_X9_goes_0_0 : zbox [] (fun vs => zFrun (zpost (zAlq al_X9_goes_0)) 1000 t_X9_goes fm_X9_goes_0 bf_X9_goes_0 (0, vs)) = true := by decide +kernel
theorem r_X9_goes_0_1 : zbox [(2, 2147483648, 2147483696)] (fun vs => zFrun (zpost (zAlq al_X9_goes_0)) 1000 t_X9_goes fm_X9_goes_0 bf_X9_goes_0 (1, vs)) = true := by decide +kernel
set_option maxRecDepth 100000 in
theorem x_X9_goes_0 (d : Nat) (hG : zGood gh) : zS l G gh (d + 9) (zpost (zAlq al_X9_goes_0)) n_X9_goes (zn 0 p_X9_goes 0) (zwc (0, [.inr (.ref 292), .inl 9223372043297226800], zP q_X9_goes_0) 0) := zentry (tt_X9_goes d hG) fm_X9_goes_0 bf_X9_goes_0 1000 (by decide +kernel) rfl ⟨Nat.zero_lt_succ _, trivial⟩ (fun f hf => match f, hf with
  | 0, _ => fun vs hv => (zbox_t r_X9_goes_0_0) vs hv
  | 1, _ => fun vs hv => (zbox_t r_X9_goes_0_1) vs hv
  | f + 2, h => absurd (show f + 2 < 2 from h) (Nat.not_lt.mpr (Nat.le_add_left 2 f)))
noncomputable def gs_X9_goes_0 : zMt := zgq true zUN 3 [.inr (.ref 292), .inl 9223372043297226800] q_X9_goes_0 al_X9_goes_0
set_option maxRecDepth 100000 in
theorem cs_X9_goes_0 (d : Nat) (hG : zGood gh) : zC l G gh (d + 9) n_X9_goes gs_X9_goes_0 := zgq_ok zGood_ok (pcs := p_X9_goes) (by decide) rfl rfl (fun a ha => by simp only [al_X9_goes_0, List.mem_cons, List.not_mem_nil, or_false] at ha; rcases ha with rfl <;> decide +kernel) (fun gh hG => x_X9_goes_0 d hG) (by decide +kernel) hG
noncomputable def gs_X9_goes : zMt := gs_X9_goes_0
theorem cs_X9_goes (d : Nat) (hG : zGood gh) : zC l G gh (d + 9) n_X9_goes gs_X9_goes := (cs_X9_goes_0 d hG)
def p_X9_clash : List Nat := [0, 9, 11, 23, 37, 43, 57, 68, 71, 78, 87, 93, 99, 103, 107, 108]
noncomputable def b_X9_clash_0 : zBl := fun jp K => oIld 1 <| oInt 2147483648 <| oInt 2147483649 <| oCs 3 f_X9_in <| oIf zne zeq (jp 2) (jp 1)
theorem s_X9_clash_0 (d : Nat) (hG : zGood gh) : zPb l G gh (d + 9) n_X9_clash p_X9_clash 0 b_X9_clash_0 := fun K jp hj =>
    z_iload_n (n := 1) (i := 1) (zd (i := .iload_n 1) (n := 1) (by decide +kernel)) rfl <|
    z_iconst (n := 0) (zd (i := .iconst (0)) (n := 1) (by decide +kernel)) (by decide +kernel) <|
    z_iconst (n := 1) (zd (i := .iconst (1)) (n := 1) (by decide +kernel)) (by decide +kernel) <|
    z_callS (idx := 304) (N := n_X9_in) (zd (i := .invokestatic 304) (n := 3) (by decide +kernel)) to_X9_in g1442 g1443 rfl rfl (c_X9_in (l := l) (G := G) (gh := gh) (d + 7)) <|
    z_if_ne (off := 5) (tgt := 11) (zd (i := .ifCond .ne (5)) (n := 3) (by decide +kernel)) (by decide +kernel) (zj (hj 2) (by decide +kernel)) (zj (hj 1) (by decide +kernel))
noncomputable def b_X9_clash_1 : zBl := fun jp K => oInt 2147483647 <| oIret K
theorem s_X9_clash_1 (d : Nat) (hG : zGood gh) : zPb l G gh (d + 9) n_X9_clash p_X9_clash 9 b_X9_clash_1 := fun K jp hj =>
    z_iconst (n := -1) (zd (i := .iconst (-1)) (n := 1) (by decide +kernel)) (by decide +kernel) <|
    z_iret (zd (i := .ireturn) (n := 1) (by decide +kernel)) rfl
noncomputable def b_X9_clash_2 : zBl := fun jp K => oAld 0 <| oCv 9 0 gs_X9_copies <| oInt 2147483648 <| oIst 2 <| oInt 2147483646 <| oIst 3 <| oInt 2147483648 <| oIst 4 <| jp 3
theorem s_X9_clash_2 (d : Nat) (hG : zGood gh) : zPb l G gh (d + 9) n_X9_clash p_X9_clash 11 b_X9_clash_2 := fun K jp hj =>
    z_aload_n (n := 0) (i := 0) (zd (i := .aload_n 0) (n := 1) (by decide +kernel)) rfl <|
    z_callV (idx := 375) (ci := 9) (N := n_X9_copies) (zd (i := .invokevirtual 375) (n := 3) (by decide +kernel)) to_X9_copies g1445 g1447 g67 (by decide +kernel) rfl rfl rfl (cs_X9_copies (l := l) (G := G) (gh := gh) (d + 7)) <|
    z_iconst (n := 0) (zd (i := .iconst (0)) (n := 1) (by decide +kernel)) (by decide +kernel) <|
    z_istore_n (n := 2) (i := 2) (zd (i := .istore_n 2) (n := 1) (by decide +kernel)) rfl (by decide +kernel) <|
    z_bipush (n := -2) (zd (i := .bipush (-2)) (n := 2) (by decide +kernel)) (by decide +kernel) <|
    z_istore_n (n := 3) (i := 3) (zd (i := .istore_n 3) (n := 1) (by decide +kernel)) rfl (by decide +kernel) <|
    z_iconst (n := 0) (zd (i := .iconst (0)) (n := 1) (by decide +kernel)) (by decide +kernel) <|
    z_istore (i := 4) (zd (i := .istore 4) (n := 2) (by decide +kernel)) (by decide +kernel) <|
    (zj (hj 3) (by decide +kernel))
noncomputable def b_X9_clash_3 : zBl := fun jp K => oIld 4 <| oAld 0 <| oGetR 9 25 <| oAld 0 <| oGetI 9 18 <| oXald 10 <| oIc zge zlt (jp 12) (jp 4)
theorem s_X9_clash_3 (d : Nat) (hG : zGood gh) : zPb l G gh (d + 9) n_X9_clash p_X9_clash 23 b_X9_clash_3 := fun K jp hj =>
    z_iload (i := 4) (zd (i := .iload 4) (n := 2) (by decide +kernel)) <|
    z_aload_n (n := 0) (i := 0) (zd (i := .aload_n 0) (n := 1) (by decide +kernel)) rfl <|
    z_getR (ci := 9) (j := 25) (idx := 52) (zd (i := .getfield 52) (n := 3) (by decide +kernel)) (by decide +kernel) (by decide +kernel) rfl g1153 <|
    z_aload_n (n := 0) (i := 0) (zd (i := .aload_n 0) (n := 1) (by decide +kernel)) rfl <|
    z_getI (ci := 9) (j := 18) (idx := 230) (zd (i := .getfield 230) (n := 3) (by decide +kernel)) (by decide +kernel) (by decide +kernel) rfl g1146 <|
    z_iald (zd (i := .iaload) (n := 1) (by decide +kernel)) <|
    z_icmp_ge (off := 65) (tgt := 99) (zd (i := .if_icmp .ge (65)) (n := 3) (by decide +kernel)) (by decide +kernel) (zj (hj 12) (by decide +kernel)) (zj (hj 4) (by decide +kernel))
noncomputable def b_X9_clash_4 : zBl := fun jp K => oIld 4 <| oInt 2147483649 <| oB2 zadd <| oIst 5 <| jp 5
theorem s_X9_clash_4 (d : Nat) (hG : zGood gh) : zPb l G gh (d + 9) n_X9_clash p_X9_clash 37 b_X9_clash_4 := fun K jp hj =>
    z_iload (i := 4) (zd (i := .iload 4) (n := 2) (by decide +kernel)) <|
    z_iconst (n := 1) (zd (i := .iconst (1)) (n := 1) (by decide +kernel)) (by decide +kernel) <|
    z_iadd (zd (i := .iadd) (n := 1) (by decide +kernel)) <|
    z_istore (i := 5) (zd (i := .istore 5) (n := 2) (by decide +kernel)) (by decide +kernel) <|
    (zj (hj 5) (by decide +kernel))
noncomputable def b_X9_clash_5 : zBl := fun jp K => oIld 5 <| oAld 0 <| oGetR 9 25 <| oAld 0 <| oGetI 9 18 <| oXald 10 <| oIc zge zlt (jp 11) (jp 6)
theorem s_X9_clash_5 (d : Nat) (hG : zGood gh) : zPb l G gh (d + 9) n_X9_clash p_X9_clash 43 b_X9_clash_5 := fun K jp hj =>
    z_iload (i := 5) (zd (i := .iload 5) (n := 2) (by decide +kernel)) <|
    z_aload_n (n := 0) (i := 0) (zd (i := .aload_n 0) (n := 1) (by decide +kernel)) rfl <|
    z_getR (ci := 9) (j := 25) (idx := 52) (zd (i := .getfield 52) (n := 3) (by decide +kernel)) (by decide +kernel) (by decide +kernel) rfl g1153 <|
    z_aload_n (n := 0) (i := 0) (zd (i := .aload_n 0) (n := 1) (by decide +kernel)) rfl <|
    z_getI (ci := 9) (j := 18) (idx := 230) (zd (i := .getfield 230) (n := 3) (by decide +kernel)) (by decide +kernel) (by decide +kernel) rfl g1146 <|
    z_iald (zd (i := .iaload) (n := 1) (by decide +kernel)) <|
    z_icmp_ge (off := 39) (tgt := 93) (zd (i := .if_icmp .ge (39)) (n := 3) (by decide +kernel)) (by decide +kernel) (zj (hj 11) (by decide +kernel)) (zj (hj 6) (by decide +kernel))
noncomputable def b_X9_clash_6 : zBl := fun jp K => oAld 0 <| oIld 4 <| oIld 5 <| oCv 9 2 gs_X9_doClash <| oIf zne zeq (jp 8) (jp 7)
theorem s_X9_clash_6 (d : Nat) (hG : zGood gh) : zPb l G gh (d + 9) n_X9_clash p_X9_clash 57 b_X9_clash_6 := fun K jp hj =>
    z_aload_n (n := 0) (i := 0) (zd (i := .aload_n 0) (n := 1) (by decide +kernel)) rfl <|
    z_iload (i := 4) (zd (i := .iload 4) (n := 2) (by decide +kernel)) <|
    z_iload (i := 5) (zd (i := .iload 5) (n := 2) (by decide +kernel)) <|
    z_callV (idx := 402) (ci := 9) (N := n_X9_doClash) (zd (i := .invokevirtual 402) (n := 3) (by decide +kernel)) to_X9_doClash g1590 g1592 g89 (by decide +kernel) rfl rfl rfl (cs_X9_doClash (l := l) (G := G) (gh := gh) (d) hG) <|
    z_if_ne (off := 6) (tgt := 71) (zd (i := .ifCond .ne (6)) (n := 3) (by decide +kernel)) (by decide +kernel) (zj (hj 8) (by decide +kernel)) (zj (hj 7) (by decide +kernel))
noncomputable def b_X9_clash_7 : zBl := fun jp K => jp 10
theorem s_X9_clash_7 (d : Nat) (hG : zGood gh) : zPb l G gh (d + 9) n_X9_clash p_X9_clash 68 b_X9_clash_7 := fun K jp hj =>
    z_goto (off := 19) (tgt := 87) (zd (i := .goto (19)) (n := 3) (by decide +kernel)) (by decide +kernel) (zj (hj 10) (by decide +kernel))
noncomputable def b_X9_clash_8 : zBl := fun jp K => oInc 2 2147483649 <| oNLC 3 2147483648 zgeN zltN zn1_ge zn1_lt (jp 10) (jp 9)
theorem s_X9_clash_8 (d : Nat) (hG : zGood gh) : zPb l G gh (d + 9) n_X9_clash p_X9_clash 71 b_X9_clash_8 := fun K jp hj =>
    z_iinc (i := 2) (n := 1) (zd (i := .iinc 2 (1)) (n := 3) (by decide +kernel)) (by decide +kernel) (by decide +kernel) <|
    z_nL0_ge (i := 3) (a1 := 1) (off := 12) (tgt := 87) (zLd_n (n := 3) (i := 3) (zd (i := .iload_n 3) (n := 1) (by decide +kernel)) rfl) (zd (i := .ifCond .ge (12)) (n := 3) (by decide +kernel)) (by decide +kernel) (zj (hj 10) (by decide +kernel)) (zj (hj 9) (by decide +kernel))
noncomputable def b_X9_clash_9 : zBl := fun jp K => oInt 2147483658 <| oIld 4 <| oB2 zimul <| oIld 5 <| oB2 zadd <| oIst 3 <| jp 10
theorem s_X9_clash_9 (d : Nat) (hG : zGood gh) : zPb l G gh (d + 9) n_X9_clash p_X9_clash 78 b_X9_clash_9 := fun K jp hj =>
    z_bipush (n := 10) (zd (i := .bipush (10)) (n := 2) (by decide +kernel)) (by decide +kernel) <|
    z_iload (i := 4) (zd (i := .iload 4) (n := 2) (by decide +kernel)) <|
    z_imul (zd (i := .imul) (n := 1) (by decide +kernel)) <|
    z_iload (i := 5) (zd (i := .iload 5) (n := 2) (by decide +kernel)) <|
    z_iadd (zd (i := .iadd) (n := 1) (by decide +kernel)) <|
    z_istore_n (n := 3) (i := 3) (zd (i := .istore_n 3) (n := 1) (by decide +kernel)) rfl (by decide +kernel) <|
    (zj (hj 10) (by decide +kernel))
noncomputable def b_X9_clash_10 : zBl := fun jp K => oInc 5 2147483649 <| jp 5
theorem s_X9_clash_10 (d : Nat) (hG : zGood gh) : zPb l G gh (d + 9) n_X9_clash p_X9_clash 87 b_X9_clash_10 := fun K jp hj =>
    z_iinc (i := 5) (n := 1) (zd (i := .iinc 5 (1)) (n := 3) (by decide +kernel)) (by decide +kernel) (by decide +kernel) <|
    z_goto (off := -47) (tgt := 43) (zd (i := .goto (-47)) (n := 3) (by decide +kernel)) (by decide +kernel) (zj (hj 5) (by decide +kernel))
noncomputable def b_X9_clash_11 : zBl := fun jp K => oInc 4 2147483649 <| jp 3
theorem s_X9_clash_11 (d : Nat) (hG : zGood gh) : zPb l G gh (d + 9) n_X9_clash p_X9_clash 93 b_X9_clash_11 := fun K jp hj =>
    z_iinc (i := 4) (n := 1) (zd (i := .iinc 4 (1)) (n := 3) (by decide +kernel)) (by decide +kernel) (by decide +kernel) <|
    z_goto (off := -73) (tgt := 23) (zd (i := .goto (-73)) (n := 3) (by decide +kernel)) (by decide +kernel) (zj (hj 3) (by decide +kernel))
noncomputable def b_X9_clash_12 : zBl := fun jp K => oNLC 1 2147483648 zneN zeqN zn1_ne zn1_eq (jp 14) (jp 13)
theorem s_X9_clash_12 (d : Nat) (hG : zGood gh) : zPb l G gh (d + 9) n_X9_clash p_X9_clash 99 b_X9_clash_12 := fun K jp hj =>
    z_nL0_ne (i := 1) (a1 := 1) (off := 7) (tgt := 107) (zLd_n (n := 1) (i := 1) (zd (i := .iload_n 1) (n := 1) (by decide +kernel)) rfl) (zd (i := .ifCond .ne (7)) (n := 3) (by decide +kernel)) (by decide +kernel) (zj (hj 14) (by decide +kernel)) (zj (hj 13) (by decide +kernel))
noncomputable def b_X9_clash_13 : zBl := fun jp K => oIld 2 <| jp 15
theorem s_X9_clash_13 (d : Nat) (hG : zGood gh) : zPb l G gh (d + 9) n_X9_clash p_X9_clash 103 b_X9_clash_13 := fun K jp hj =>
    z_iload_n (n := 2) (i := 2) (zd (i := .iload_n 2) (n := 1) (by decide +kernel)) rfl <|
    z_goto (off := 4) (tgt := 108) (zd (i := .goto (4)) (n := 3) (by decide +kernel)) (by decide +kernel) (zj (hj 15) (by decide +kernel))
noncomputable def b_X9_clash_14 : zBl := fun jp K => oIld 3 <| jp 15
theorem s_X9_clash_14 (d : Nat) (hG : zGood gh) : zPb l G gh (d + 9) n_X9_clash p_X9_clash 107 b_X9_clash_14 := fun K jp hj =>
    z_iload_n (n := 3) (i := 3) (zd (i := .iload_n 3) (n := 1) (by decide +kernel)) rfl <|
    (zj (hj 15) (by decide +kernel))
noncomputable def b_X9_clash_15 : zBl := fun jp K => oIret K
theorem s_X9_clash_15 (d : Nat) (hG : zGood gh) : zPb l G gh (d + 9) n_X9_clash p_X9_clash 108 b_X9_clash_15 := fun K jp hj =>
    z_iret (zd (i := .ireturn) (n := 1) (by decide +kernel)) rfl
noncomputable def t_X9_clash : List zBl := [b_X9_clash_0, b_X9_clash_1, b_X9_clash_2, b_X9_clash_3, b_X9_clash_4, b_X9_clash_5, b_X9_clash_6, b_X9_clash_7, b_X9_clash_8, b_X9_clash_9, b_X9_clash_10, b_X9_clash_11, b_X9_clash_12, b_X9_clash_13, b_X9_clash_14, b_X9_clash_15]
theorem tt_X9_clash (d : Nat) (hG : zGood gh) : zT (zPb l G gh (d + 9) n_X9_clash p_X9_clash) t_X9_clash p_X9_clash := ⟨s_X9_clash_0 d hG, s_X9_clash_1 d hG, s_X9_clash_2 d hG, s_X9_clash_3 d hG, s_X9_clash_4 d hG, s_X9_clash_5 d hG, s_X9_clash_6 d hG, s_X9_clash_7 d hG, s_X9_clash_8 d hG, s_X9_clash_9 d hG, s_X9_clash_10 d hG, s_X9_clash_11 d hG, s_X9_clash_12 d hG, s_X9_clash_13 d hG, s_X9_clash_14 d hG, s_X9_clash_15 d hG, trivial⟩
def q_X9_clash_0 : List (Nat × Nat) := [(292, zk102), (301, zk107), (302, zk111), (303, zk111), (304, zk107), (310, zk103), (321, zk3), (322, zk116), (323, zk104), (324, zk104)]
noncomputable def al_X9_clash_0 : zAq := [(some (.inl 8589934591), [(292, zk105), (301, zk107), (302, zk111), (303, zk111), (304, zk107), (310, zk103), (321, zk4), (322, zk117), (323, zk104), (324, zk106)])]
def mq_X9_clash_0_1 : List (Nat × Nat) := [(292, zk105), (301, zk107), (302, zk111), (303, zk111), (304, zk107), (310, zk103), (321, zk4), (322, zk117), (323, zk104), (324, zk106)]
def mq_X9_clash_0_2 : List (Nat × Nat) := [(292, zk105), (301, zk107), (302, zk111), (303, zk111), (304, zk107), (310, zk103), (321, zk4), (322, zk117), (323, zk104), (324, zk106)]
noncomputable def fm_X9_clash_0 : List zFm := [(0, [], (fun vs => [.inr (.ref 292), .inl 8589934591]), (fun vs => zP q_X9_clash_0), (fun vs => Nat.sub (Nat.add 84 0) 0)),
  (3, [(4, 2147483648, 2147483654)], (fun vs => [.inr (.ref 292), .inl 8589934591, .inl 8589934591, .inl 9223372034707292215, .inl (zn 0 vs 0)]), (fun vs => zP mq_X9_clash_0_1), (fun vs => Nat.sub (Nat.add 25769803854 0) (Nat.add 0 (Nat.mul 12 (zn 0 vs 0))))),
  (5, [(4, 2147483648, 2147483653), (5, 2147483649, 2147483654)], (fun vs => [.inr (.ref 292), .inl 8589934591, .inl 8589934591, .inl 9223372034707292215, .inl (zn 0 vs 0), .inl (zn 0 vs 1)]), (fun vs => zP mq_X9_clash_0_2), (fun vs => Nat.sub (Nat.add 27917287502 0) (Nat.add (Nat.add 0 (Nat.mul 12 (zn 0 vs 0))) (Nat.mul 1 (zn 0 vs 1)))))]
def bf_X9_clash_0 : List Nat := [0, 0, 0, 2, 0, 3]
theorem r_X9_clash_0_0 : zbox [] (fun vs => zFrun (zpost (zAlq al_X9_clash_0)) 1000 t_X9_clash fm_X9_clash_0 bf_X9_clash_0 (0, vs)) = true := by decide +kernel
theorem r_X9_clash_0_1 : zbox [(4, 2147483648, 2147483654)] (fun vs => zFrun (zpost (zAlq al_X9_clash_0)) 1000 t_X9_clash fm_X9_clash_0 bf_X9_clash_0 (1, vs)) = true := by decide +kernel
theorem r_X9_clash_0_2 : zbox [(4, 2147483648, 2147483653), (5, 2147483649, 2147483654)] (fun vs => zFrun (zpost (zAlq al_X9_clash_0)) 1000 t_X9_clash fm_X9_clash_0 bf_X9_clash_0 (2, vs)) = true := by decide +kernel
set_option maxRecDepth 100000 in
theorem x_X9_clash_0 (d : Nat) (hG : zGood gh) : zS l G gh (d + 9) (zpost (zAlq al_X9_clash_0)) n_X9_clash (zn 0 p_X9_clash 0) (zwc (0, [.inr (.ref 292), .inl 8589934591], zP q_X9_clash_0) 0) := zentry (tt_X9_clash d hG) fm_X9_clash_0 bf_X9_clash_0 1000 (by decide +kernel) rfl ⟨Nat.zero_lt_succ _, trivial⟩ (fun f hf => match f, hf with
  | 0, _ => fun vs hv => (zbox_t r_X9_clash_0_0) vs hv
  | 1, _ => fun vs hv => (zbox_t r_X9_clash_0_1) vs hv
  | 2, _ => fun vs hv => (zbox_t r_X9_clash_0_2) vs hv
  | f + 3, h => absurd (show f + 3 < 3 from h) (Nat.not_lt.mpr (Nat.le_add_left 3 f)))
noncomputable def gs_X9_clash_0 : zMt := zgq true zUN 6 [.inr (.ref 292), .inl 8589934591] q_X9_clash_0 al_X9_clash_0
set_option maxRecDepth 100000 in
theorem cs_X9_clash_0 (d : Nat) (hG : zGood gh) : zC l G gh (d + 9) n_X9_clash gs_X9_clash_0 := zgq_ok zGood_ok (pcs := p_X9_clash) (by decide) rfl rfl (fun a ha => by simp only [al_X9_clash_0, List.mem_cons, List.not_mem_nil, or_false] at ha; rcases ha with rfl <;> decide +kernel) (fun gh hG => x_X9_clash_0 d hG) (by decide +kernel) hG
noncomputable def gs_X9_clash : zMt := gs_X9_clash_0
theorem cs_X9_clash (d : Nat) (hG : zGood gh) : zC l G gh (d + 9) n_X9_clash gs_X9_clash := (cs_X9_clash_0 d hG)
def p_X9_hours : List Nat := [0, 7, 9, 13, 21]
noncomputable def b_X9_hours_0 : zBl := fun jp K => oIld 1 <| oCs 1 f_X9_isLong <| oIf zne zeq (jp 2) (jp 1)
theorem s_X9_hours_0 (d : Nat) (hG : zGood gh) : zPb l G gh (d + 10) n_X9_hours p_X9_hours 0 b_X9_hours_0 := fun K jp hj =>
    z_iload_n (n := 1) (i := 1) (zd (i := .iload_n 1) (n := 1) (by decide +kernel)) rfl <|
    z_callS (idx := 393) (N := n_X9_isLong) (zd (i := .invokestatic 393) (n := 3) (by decide +kernel)) to_X9_isLong g1543 g1544 rfl rfl (c_X9_isLong (l := l) (G := G) (gh := gh) (d + 7)) <|
    z_if_ne (off := 5) (tgt := 9) (zd (i := .ifCond .ne (5)) (n := 3) (by decide +kernel)) (by decide +kernel) (zj (hj 2) (by decide +kernel)) (zj (hj 1) (by decide +kernel))
noncomputable def b_X9_hours_1 : zBl := fun jp K => oInt 2147483647 <| oIret K
theorem s_X9_hours_1 (d : Nat) (hG : zGood gh) : zPb l G gh (d + 10) n_X9_hours p_X9_hours 7 b_X9_hours_1 := fun K jp hj =>
    z_iconst (n := -1) (zd (i := .iconst (-1)) (n := 1) (by decide +kernel)) (by decide +kernel) <|
    z_iret (zd (i := .ireturn) (n := 1) (by decide +kernel)) rfl
noncomputable def b_X9_hours_2 : zBl := fun jp K => oNLC 1 2147483648 zneN zeqN zn1_ne zn1_eq (jp 4) (jp 3)
theorem s_X9_hours_2 (d : Nat) (hG : zGood gh) : zPb l G gh (d + 10) n_X9_hours p_X9_hours 9 b_X9_hours_2 := fun K jp hj =>
    z_nL0_ne (i := 1) (a1 := 1) (off := 11) (tgt := 21) (zLd_n (n := 1) (i := 1) (zd (i := .iload_n 1) (n := 1) (by decide +kernel)) rfl) (zd (i := .ifCond .ne (11)) (n := 3) (by decide +kernel)) (by decide +kernel) (zj (hj 4) (by decide +kernel)) (zj (hj 3) (by decide +kernel))
noncomputable def b_X9_hours_3 : zBl := fun jp K => oAld 0 <| oGetR 9 48 <| oInt 2147483744 <| oXald 10 <| oIret K
theorem s_X9_hours_3 (d : Nat) (hG : zGood gh) : zPb l G gh (d + 10) n_X9_hours p_X9_hours 13 b_X9_hours_3 := fun K jp hj =>
    z_aload_n (n := 0) (i := 0) (zd (i := .aload_n 0) (n := 1) (by decide +kernel)) rfl <|
    z_getR (ci := 9) (j := 48) (idx := 110) (zd (i := .getfield 110) (n := 3) (by decide +kernel)) (by decide +kernel) (by decide +kernel) rfl g1176 <|
    z_bipush (n := 96) (zd (i := .bipush (96)) (n := 2) (by decide +kernel)) (by decide +kernel) <|
    z_iald (zd (i := .iaload) (n := 1) (by decide +kernel)) <|
    z_iret (zd (i := .ireturn) (n := 1) (by decide +kernel)) rfl
noncomputable def b_X9_hours_4 : zBl := fun jp K => oAld 0 <| oCv 9 0 gs_X9_copies <| oAld 0 <| oIld 1 <| oCv 9 1 gs_X9_goes <| oAld 0 <| oCv 9 0 gs_X9_records <| oAld 0 <| oGetR 9 48 <| oInt 2147483744 <| oXald 10 <| oIret K
theorem s_X9_hours_4 (d : Nat) (hG : zGood gh) : zPb l G gh (d + 10) n_X9_hours p_X9_hours 21 b_X9_hours_4 := fun K jp hj =>
    z_aload_n (n := 0) (i := 0) (zd (i := .aload_n 0) (n := 1) (by decide +kernel)) rfl <|
    z_callV (idx := 375) (ci := 9) (N := n_X9_copies) (zd (i := .invokevirtual 375) (n := 3) (by decide +kernel)) to_X9_copies g1445 g1447 g67 (by decide +kernel) rfl rfl rfl (cs_X9_copies (l := l) (G := G) (gh := gh) (d + 8)) <|
    z_aload_n (n := 0) (i := 0) (zd (i := .aload_n 0) (n := 1) (by decide +kernel)) rfl <|
    z_iload_n (n := 1) (i := 1) (zd (i := .iload_n 1) (n := 1) (by decide +kernel)) rfl <|
    z_callV (idx := 396) (ci := 9) (N := n_X9_goes) (zd (i := .invokevirtual 396) (n := 3) (by decide +kernel)) to_X9_goes g1546 g1548 g82 (by decide +kernel) rfl rfl rfl (cs_X9_goes (l := l) (G := G) (gh := gh) (d) hG) <|
    z_aload_n (n := 0) (i := 0) (zd (i := .aload_n 0) (n := 1) (by decide +kernel)) rfl <|
    z_callV (idx := 390) (ci := 9) (N := n_X9_records) (zd (i := .invokevirtual 390) (n := 3) (by decide +kernel)) to_X9_records g1526 g1528 g81 (by decide +kernel) rfl rfl rfl (cs_X9_records (l := l) (G := G) (gh := gh) (d + 7)) <|
    z_aload_n (n := 0) (i := 0) (zd (i := .aload_n 0) (n := 1) (by decide +kernel)) rfl <|
    z_getR (ci := 9) (j := 48) (idx := 110) (zd (i := .getfield 110) (n := 3) (by decide +kernel)) (by decide +kernel) (by decide +kernel) rfl g1176 <|
    z_bipush (n := 96) (zd (i := .bipush (96)) (n := 2) (by decide +kernel)) (by decide +kernel) <|
    z_iald (zd (i := .iaload) (n := 1) (by decide +kernel)) <|
    z_iret (zd (i := .ireturn) (n := 1) (by decide +kernel)) rfl
noncomputable def t_X9_hours : List zBl := [b_X9_hours_0, b_X9_hours_1, b_X9_hours_2, b_X9_hours_3, b_X9_hours_4]
theorem tt_X9_hours (d : Nat) (hG : zGood gh) : zT (zPb l G gh (d + 10) n_X9_hours p_X9_hours) t_X9_hours p_X9_hours := ⟨s_X9_hours_0 d hG, s_X9_hours_1 d hG, s_X9_hours_2 d hG, s_X9_hours_3 d hG, s_X9_hours_4 d hG, trivial⟩
def q_X9_hours_0 : List (Nat × Nat) := [(292, zk102), (301, zk107), (302, zk111), (303, zk111), (304, zk107), (307, zk103), (308, zk103), (310, zk103), (321, zk3), (322, zk116), (323, zk104), (324, zk104), (325, zk108)]
noncomputable def al_X9_hours_0 : zAq := [(some (.inl 8589934591), [(292, zk109), (301, zk107), (302, zk111), (303, zk111), (304, zk107), (307, zk103), (308, zk103), (310, zk103), (321, zk4), (322, zk117), (323, zk106), (324, zk106), (325, zk112)])]
noncomputable def fm_X9_hours_0 : List zFm := [(0, [], (fun vs => [.inr (.ref 292), .inl 9223372047592194096]), (fun vs => zP q_X9_hours_0), (fun vs => Nat.sub (Nat.add 0 0) 0))]
def bf_X9_hours_0 : List Nat := []
theorem r_X9_hours_0_0 : zbox [] (fun vs => zFrun (zpost (zAlq al_X9_hours_0)) 1000 t_X9_hours fm_X9_hours_0 bf_X9_hours_0 (0, vs)) = true := by decide +kernel
set_option maxRecDepth 100000 in
theorem x_X9_hours_0 (d : Nat) (hG : zGood gh) : zS l G gh (d + 10) (zpost (zAlq al_X9_hours_0)) n_X9_hours (zn 0 p_X9_hours 0) (zwc (0, [.inr (.ref 292), .inl 9223372047592194096], zP q_X9_hours_0) 0) := zentry (tt_X9_hours d hG) fm_X9_hours_0 bf_X9_hours_0 1000 (by decide +kernel) rfl ⟨Nat.zero_lt_succ _, trivial⟩ (fun f hf => match f, hf with
  | 0, _ => fun vs hv => (zbox_t r_X9_hours_0_0) vs hv
  | f + 1, h => absurd (show f + 1 < 1 from h) (Nat.not_lt.mpr (Nat.le_add_left 1 f)))
noncomputable def gs_X9_hours_0 : zMt := zgq true zUN 2 [.inr (.ref 292), .inl 9223372047592194096] q_X9_hours_0 al_X9_hours_0
set_option maxRecDepth 100000 in
theorem cs_X9_hours_0 (d : Nat) (hG : zGood gh) : zC l G gh (d + 10) n_X9_hours gs_X9_hours_0 := zgq_ok zGood_ok (pcs := p_X9_hours) (by decide) rfl rfl (fun a ha => by simp only [al_X9_hours_0, List.mem_cons, List.not_mem_nil, or_false] at ha; rcases ha with rfl <;> decide +kernel) (fun gh hG => x_X9_hours_0 d hG) (by decide +kernel) hG
def q_X9_hours_1 : List (Nat × Nat) := []
noncomputable def al_X9_hours_1 : zAq := [(some (.inl 2147483647), [])]
noncomputable def fm_X9_hours_1 : List zFm := [(0, [], (fun vs => [.inr (.ref 292), .inl 6442450943]), (fun vs => zP q_X9_hours_1), (fun vs => Nat.sub (Nat.add 0 0) 0))]
def bf_X9_hours_1 : List Nat := []
theorem r_X9_hours_1_0 : zbox [] (fun vs => zFrun (zpost (zAlq al_X9_hours_1)) 1000 t_X9_hours fm_X9_hours_1 bf_X9_hours_1 (0, vs)) = true := by decide +kernel
set_option maxRecDepth 100000 in
theorem x_X9_hours_1 (d : Nat) (hG : zGood gh) : zS l G gh (d + 10) (zpost (zAlq al_X9_hours_1)) n_X9_hours (zn 0 p_X9_hours 0) (zwc (0, [.inr (.ref 292), .inl 6442450943], zP q_X9_hours_1) 0) := zentry (tt_X9_hours d hG) fm_X9_hours_1 bf_X9_hours_1 1000 (by decide +kernel) rfl ⟨Nat.zero_lt_succ _, trivial⟩ (fun f hf => match f, hf with
  | 0, _ => fun vs hv => (zbox_t r_X9_hours_1_0) vs hv
  | f + 1, h => absurd (show f + 1 < 1 from h) (Nat.not_lt.mpr (Nat.le_add_left 1 f)))
noncomputable def gs_X9_hours_1 : zMt := zgq true zUN 2 [.inr (.ref 292), .inl 6442450943] q_X9_hours_1 al_X9_hours_1
set_option maxRecDepth 100000 in
theorem cs_X9_hours_1 (d : Nat) (hG : zGood gh) : zC l G gh (d + 10) n_X9_hours gs_X9_hours_1 := zgq_ok zGood_ok (pcs := p_X9_hours) (by decide) rfl rfl (fun a ha => by simp only [al_X9_hours_1, List.mem_cons, List.not_mem_nil, or_false] at ha; rcases ha with rfl <;> decide +kernel) (fun gh hG => x_X9_hours_1 d hG) (by decide +kernel) hG
def q_X9_hours_2 : List (Nat × Nat) := [(292, zk102), (323, zk104)]
noncomputable def al_X9_hours_2 : zAq := [(some (.inl 8589934591), [(292, zk102), (323, zk104)])]
noncomputable def fm_X9_hours_2 : List zFm := [(0, [], (fun vs => [.inr (.ref 292), .inl 2147483648]), (fun vs => zP q_X9_hours_2), (fun vs => Nat.sub (Nat.add 0 0) 0))]
def bf_X9_hours_2 : List Nat := []
theorem r_X9_hours_2_0 : zbox [] (fun vs => zFrun (zpost (zAlq al_X9_hours_2)) 1000 t_X9_hours fm_X9_hours_2 bf_X9_hours_2 (0, vs)) = true := by decide +kernel
set_option maxRecDepth 100000 in
theorem x_X9_hours_2 (d : Nat) (hG : zGood gh) : zS l G gh (d + 10) (zpost (zAlq al_X9_hours_2)) n_X9_hours (zn 0 p_X9_hours 0) (zwc (0, [.inr (.ref 292), .inl 2147483648], zP q_X9_hours_2) 0) := zentry (tt_X9_hours d hG) fm_X9_hours_2 bf_X9_hours_2 1000 (by decide +kernel) rfl ⟨Nat.zero_lt_succ _, trivial⟩ (fun f hf => match f, hf with
  | 0, _ => fun vs hv => (zbox_t r_X9_hours_2_0) vs hv
  | f + 1, h => absurd (show f + 1 < 1 from h) (Nat.not_lt.mpr (Nat.le_add_left 1 f)))
noncomputable def gs_X9_hours_2 : zMt := zgq true zUN 2 [.inr (.ref 292), .inl 2147483648] q_X9_hours_2 al_X9_hours_2
set_option maxRecDepth 100000 in
theorem cs_X9_hours_2 (d : Nat) (hG : zGood gh) : zC l G gh (d + 10) n_X9_hours gs_X9_hours_2 := zgq_ok zGood_ok (pcs := p_X9_hours) (by decide) rfl rfl (fun a ha => by simp only [al_X9_hours_2, List.mem_cons, List.not_mem_nil, or_false] at ha; rcases ha with rfl <;> decide +kernel) (fun gh hG => x_X9_hours_2 d hG) (by decide +kernel) hG
def q_X9_hours_3 : List (Nat × Nat) := []
noncomputable def al_X9_hours_3 : zAq := [(some (.inl 2147483647), [])]
noncomputable def fm_X9_hours_3 : List zFm := [(0, [], (fun vs => [.inr (.ref 292), .inl 9223372255898107903]), (fun vs => zP q_X9_hours_3), (fun vs => Nat.sub (Nat.add 0 0) 0))]
def bf_X9_hours_3 : List Nat := []
theorem r_X9_hours_3_0 : zbox [] (fun vs => zFrun (zpost (zAlq al_X9_hours_3)) 1000 t_X9_hours fm_X9_hours_3 bf_X9_hours_3 (0, vs)) = true := by decide +kernel
set_option maxRecDepth 100000 in
theorem x_X9_hours_3 (d : Nat) (hG : zGood gh) : zS l G gh (d + 10) (zpost (zAlq al_X9_hours_3)) n_X9_hours (zn 0 p_X9_hours 0) (zwc (0, [.inr (.ref 292), .inl 9223372255898107903], zP q_X9_hours_3) 0) := zentry (tt_X9_hours d hG) fm_X9_hours_3 bf_X9_hours_3 1000 (by decide +kernel) rfl ⟨Nat.zero_lt_succ _, trivial⟩ (fun f hf => match f, hf with
  | 0, _ => fun vs hv => (zbox_t r_X9_hours_3_0) vs hv
  | f + 1, h => absurd (show f + 1 < 1 from h) (Nat.not_lt.mpr (Nat.le_add_left 1 f)))
noncomputable def gs_X9_hours_3 : zMt := zgq true zUN 2 [.inr (.ref 292), .inl 9223372255898107903] q_X9_hours_3 al_X9_hours_3
set_option maxRecDepth 100000 in
theorem cs_X9_hours_3 (d : Nat) (hG : zGood gh) : zC l G gh (d + 10) n_X9_hours gs_X9_hours_3 := zgq_ok zGood_ok (pcs := p_X9_hours) (by decide) rfl rfl (fun a ha => by simp only [al_X9_hours_3, List.mem_cons, List.not_mem_nil, or_false] at ha; rcases ha with rfl <;> decide +kernel) (fun gh hG => x_X9_hours_3 d hG) (by decide +kernel) hG
noncomputable def gs_X9_hours : zMt := (zor gs_X9_hours_0 (zor gs_X9_hours_1 (zor gs_X9_hours_2 gs_X9_hours_3)))
theorem cs_X9_hours (d : Nat) (hG : zGood gh) : zC l G gh (d + 10) n_X9_hours gs_X9_hours := (zor_ok (cs_X9_hours_0 d hG) (zor_ok (cs_X9_hours_1 d hG) (zor_ok (cs_X9_hours_2 d hG) (cs_X9_hours_3 d hG))))
def p_X9_rich : List Nat := [0, 7, 16, 18, 37, 51, 77, 80, 87, 93, 97, 101, 103]
noncomputable def b_X9_rich_0 : zBl := fun jp K => oIld 1 <| oCs 1 f_X9_isLong <| oIf zeq zne (jp 2) (jp 1)
theorem s_X9_rich_0 (d : Nat) (hG : zGood gh) : zPb l G gh (d + 10) n_X9_rich p_X9_rich 0 b_X9_rich_0 := fun K jp hj =>
    z_iload_n (n := 1) (i := 1) (zd (i := .iload_n 1) (n := 1) (by decide +kernel)) rfl <|
    z_callS (idx := 393) (N := n_X9_isLong) (zd (i := .invokestatic 393) (n := 3) (by decide +kernel)) to_X9_isLong g1543 g1544 rfl rfl (c_X9_isLong (l := l) (G := G) (gh := gh) (d + 7)) <|
    z_if_eq (off := 12) (tgt := 16) (zd (i := .ifCond .eq (12)) (n := 3) (by decide +kernel)) (by decide +kernel) (zj (hj 2) (by decide +kernel)) (zj (hj 1) (by decide +kernel))
noncomputable def b_X9_rich_1 : zBl := fun jp K => oIld 2 <| oInt 2147483648 <| oInt 2147483649 <| oCs 3 f_X9_in <| oIf zne zeq (jp 3) (jp 2)
theorem s_X9_rich_1 (d : Nat) (hG : zGood gh) : zPb l G gh (d + 10) n_X9_rich p_X9_rich 7 b_X9_rich_1 := fun K jp hj =>
    z_iload_n (n := 2) (i := 2) (zd (i := .iload_n 2) (n := 1) (by decide +kernel)) rfl <|
    z_iconst (n := 0) (zd (i := .iconst (0)) (n := 1) (by decide +kernel)) (by decide +kernel) <|
    z_iconst (n := 1) (zd (i := .iconst (1)) (n := 1) (by decide +kernel)) (by decide +kernel) <|
    z_callS (idx := 304) (N := n_X9_in) (zd (i := .invokestatic 304) (n := 3) (by decide +kernel)) to_X9_in g1442 g1443 rfl rfl (c_X9_in (l := l) (G := G) (gh := gh) (d + 8)) <|
    z_if_ne (off := 5) (tgt := 18) (zd (i := .ifCond .ne (5)) (n := 3) (by decide +kernel)) (by decide +kernel) (zj (hj 3) (by decide +kernel)) (zj (hj 2) (by decide +kernel))
noncomputable def b_X9_rich_2 : zBl := fun jp K => oInt 2147483647 <| oIret K
theorem s_X9_rich_2 (d : Nat) (hG : zGood gh) : zPb l G gh (d + 10) n_X9_rich p_X9_rich 16 b_X9_rich_2 := fun K jp hj =>
    z_iconst (n := -1) (zd (i := .iconst (-1)) (n := 1) (by decide +kernel)) (by decide +kernel) <|
    z_iret (zd (i := .ireturn) (n := 1) (by decide +kernel)) rfl
noncomputable def b_X9_rich_3 : zBl := fun jp K => oAld 0 <| oCv 9 0 gs_X9_copies <| oAld 0 <| oIld 1 <| oCv 9 1 gs_X9_goes <| oInt 2147483646 <| oIst 3 <| oInt 2147483646 <| oIst 4 <| oInt 2147483648 <| oIst 5 <| jp 4
theorem s_X9_rich_3 (d : Nat) (hG : zGood gh) : zPb l G gh (d + 10) n_X9_rich p_X9_rich 18 b_X9_rich_3 := fun K jp hj =>
    z_aload_n (n := 0) (i := 0) (zd (i := .aload_n 0) (n := 1) (by decide +kernel)) rfl <|
    z_callV (idx := 375) (ci := 9) (N := n_X9_copies) (zd (i := .invokevirtual 375) (n := 3) (by decide +kernel)) to_X9_copies g1445 g1447 g67 (by decide +kernel) rfl rfl rfl (cs_X9_copies (l := l) (G := G) (gh := gh) (d + 8)) <|
    z_aload_n (n := 0) (i := 0) (zd (i := .aload_n 0) (n := 1) (by decide +kernel)) rfl <|
    z_iload_n (n := 1) (i := 1) (zd (i := .iload_n 1) (n := 1) (by decide +kernel)) rfl <|
    z_callV (idx := 396) (ci := 9) (N := n_X9_goes) (zd (i := .invokevirtual 396) (n := 3) (by decide +kernel)) to_X9_goes g1546 g1548 g82 (by decide +kernel) rfl rfl rfl (cs_X9_goes (l := l) (G := G) (gh := gh) (d) hG) <|
    z_bipush (n := -2) (zd (i := .bipush (-2)) (n := 2) (by decide +kernel)) (by decide +kernel) <|
    z_istore_n (n := 3) (i := 3) (zd (i := .istore_n 3) (n := 1) (by decide +kernel)) rfl (by decide +kernel) <|
    z_bipush (n := -2) (zd (i := .bipush (-2)) (n := 2) (by decide +kernel)) (by decide +kernel) <|
    z_istore (i := 4) (zd (i := .istore 4) (n := 2) (by decide +kernel)) (by decide +kernel) <|
    z_iconst (n := 0) (zd (i := .iconst (0)) (n := 1) (by decide +kernel)) (by decide +kernel) <|
    z_istore (i := 5) (zd (i := .istore 5) (n := 2) (by decide +kernel)) (by decide +kernel) <|
    (zj (hj 4) (by decide +kernel))
noncomputable def b_X9_rich_4 : zBl := fun jp K => oIld 5 <| oAld 0 <| oGetR 9 25 <| oAld 0 <| oGetI 9 18 <| oXald 10 <| oIc zge zlt (jp 9) (jp 5)
theorem s_X9_rich_4 (d : Nat) (hG : zGood gh) : zPb l G gh (d + 10) n_X9_rich p_X9_rich 37 b_X9_rich_4 := fun K jp hj =>
    z_iload (i := 5) (zd (i := .iload 5) (n := 2) (by decide +kernel)) <|
    z_aload_n (n := 0) (i := 0) (zd (i := .aload_n 0) (n := 1) (by decide +kernel)) rfl <|
    z_getR (ci := 9) (j := 25) (idx := 52) (zd (i := .getfield 52) (n := 3) (by decide +kernel)) (by decide +kernel) (by decide +kernel) rfl g1153 <|
    z_aload_n (n := 0) (i := 0) (zd (i := .aload_n 0) (n := 1) (by decide +kernel)) rfl <|
    z_getI (ci := 9) (j := 18) (idx := 230) (zd (i := .getfield 230) (n := 3) (by decide +kernel)) (by decide +kernel) (by decide +kernel) rfl g1146 <|
    z_iald (zd (i := .iaload) (n := 1) (by decide +kernel)) <|
    z_icmp_ge (off := 45) (tgt := 93) (zd (i := .if_icmp .ge (45)) (n := 3) (by decide +kernel)) (by decide +kernel) (zj (hj 9) (by decide +kernel)) (zj (hj 5) (by decide +kernel))
noncomputable def b_X9_rich_5 : zBl := fun jp K => oAld 0 <| oGetR 9 49 <| oInt 2147483654 <| oIld 5 <| oB2 zadd <| oXald 10 <| oAld 0 <| oIld 5 <| oCv 9 1 gs_X9_lentBy <| oB2 zadd <| oIst 6 <| oNLL 6 4 zgtN zleN zn1_gt zn2_gt zn1_le zn2_le (jp 7) (jp 6)
theorem s_X9_rich_5 (d : Nat) (hG : zGood gh) : zPb l G gh (d + 10) n_X9_rich p_X9_rich 51 b_X9_rich_5 := fun K jp hj =>
    z_aload_n (n := 0) (i := 0) (zd (i := .aload_n 0) (n := 1) (by decide +kernel)) rfl <|
    z_getR (ci := 9) (j := 49) (idx := 113) (zd (i := .getfield 113) (n := 3) (by decide +kernel)) (by decide +kernel) (by decide +kernel) rfl g1177 <|
    z_bipush (n := 6) (zd (i := .bipush (6)) (n := 2) (by decide +kernel)) (by decide +kernel) <|
    z_iload (i := 5) (zd (i := .iload 5) (n := 2) (by decide +kernel)) <|
    z_iadd (zd (i := .iadd) (n := 1) (by decide +kernel)) <|
    z_iald (zd (i := .iaload) (n := 1) (by decide +kernel)) <|
    z_aload_n (n := 0) (i := 0) (zd (i := .aload_n 0) (n := 1) (by decide +kernel)) rfl <|
    z_iload (i := 5) (zd (i := .iload 5) (n := 2) (by decide +kernel)) <|
    z_callV (idx := 384) (ci := 9) (N := n_X9_lentBy) (zd (i := .invokevirtual 384) (n := 3) (by decide +kernel)) to_X9_lentBy g1495 g1497 g77 (by decide +kernel) rfl rfl rfl (cs_X9_lentBy (l := l) (G := G) (gh := gh) (d + 8)) <|
    z_iadd (zd (i := .iadd) (n := 1) (by decide +kernel)) <|
    z_istore (i := 6) (zd (i := .istore 6) (n := 2) (by decide +kernel)) (by decide +kernel) <|
    z_nLL_gt (i := 6) (j := 4) (a1 := 2) (a2 := 2) (off := 6) (tgt := 80) (zLd_w (i := 6) (zd (i := .iload 6) (n := 2) (by decide +kernel))) (zLd_w (i := 4) (zd (i := .iload 4) (n := 2) (by decide +kernel))) (zd (i := .if_icmp .gt (6)) (n := 3) (by decide +kernel)) (by decide +kernel) (zj (hj 7) (by decide +kernel)) (zj (hj 6) (by decide +kernel))
noncomputable def b_X9_rich_6 : zBl := fun jp K => jp 8
theorem s_X9_rich_6 (d : Nat) (hG : zGood gh) : zPb l G gh (d + 10) n_X9_rich p_X9_rich 77 b_X9_rich_6 := fun K jp hj =>
    z_goto (off := 10) (tgt := 87) (zd (i := .goto (10)) (n := 3) (by decide +kernel)) (by decide +kernel) (zj (hj 8) (by decide +kernel))
noncomputable def b_X9_rich_7 : zBl := fun jp K => oIld 5 <| oIst 3 <| oIld 6 <| oIst 4 <| jp 8
theorem s_X9_rich_7 (d : Nat) (hG : zGood gh) : zPb l G gh (d + 10) n_X9_rich p_X9_rich 80 b_X9_rich_7 := fun K jp hj =>
    z_iload (i := 5) (zd (i := .iload 5) (n := 2) (by decide +kernel)) <|
    z_istore_n (n := 3) (i := 3) (zd (i := .istore_n 3) (n := 1) (by decide +kernel)) rfl (by decide +kernel) <|
    z_iload (i := 6) (zd (i := .iload 6) (n := 2) (by decide +kernel)) <|
    z_istore (i := 4) (zd (i := .istore 4) (n := 2) (by decide +kernel)) (by decide +kernel) <|
    (zj (hj 8) (by decide +kernel))
noncomputable def b_X9_rich_8 : zBl := fun jp K => oInc 5 2147483649 <| jp 4
theorem s_X9_rich_8 (d : Nat) (hG : zGood gh) : zPb l G gh (d + 10) n_X9_rich p_X9_rich 87 b_X9_rich_8 := fun K jp hj =>
    z_iinc (i := 5) (n := 1) (zd (i := .iinc 5 (1)) (n := 3) (by decide +kernel)) (by decide +kernel) (by decide +kernel) <|
    z_goto (off := -53) (tgt := 37) (zd (i := .goto (-53)) (n := 3) (by decide +kernel)) (by decide +kernel) (zj (hj 4) (by decide +kernel))
noncomputable def b_X9_rich_9 : zBl := fun jp K => oNLC 2 2147483648 zneN zeqN zn1_ne zn1_eq (jp 11) (jp 10)
theorem s_X9_rich_9 (d : Nat) (hG : zGood gh) : zPb l G gh (d + 10) n_X9_rich p_X9_rich 93 b_X9_rich_9 := fun K jp hj =>
    z_nL0_ne (i := 2) (a1 := 1) (off := 7) (tgt := 101) (zLd_n (n := 2) (i := 2) (zd (i := .iload_n 2) (n := 1) (by decide +kernel)) rfl) (zd (i := .ifCond .ne (7)) (n := 3) (by decide +kernel)) (by decide +kernel) (zj (hj 11) (by decide +kernel)) (zj (hj 10) (by decide +kernel))
noncomputable def b_X9_rich_10 : zBl := fun jp K => oIld 3 <| jp 12
theorem s_X9_rich_10 (d : Nat) (hG : zGood gh) : zPb l G gh (d + 10) n_X9_rich p_X9_rich 97 b_X9_rich_10 := fun K jp hj =>
    z_iload_n (n := 3) (i := 3) (zd (i := .iload_n 3) (n := 1) (by decide +kernel)) rfl <|
    z_goto (off := 5) (tgt := 103) (zd (i := .goto (5)) (n := 3) (by decide +kernel)) (by decide +kernel) (zj (hj 12) (by decide +kernel))
noncomputable def b_X9_rich_11 : zBl := fun jp K => oIld 4 <| jp 12
theorem s_X9_rich_11 (d : Nat) (hG : zGood gh) : zPb l G gh (d + 10) n_X9_rich p_X9_rich 101 b_X9_rich_11 := fun K jp hj =>
    z_iload (i := 4) (zd (i := .iload 4) (n := 2) (by decide +kernel)) <|
    (zj (hj 12) (by decide +kernel))
noncomputable def b_X9_rich_12 : zBl := fun jp K => oIret K
theorem s_X9_rich_12 (d : Nat) (hG : zGood gh) : zPb l G gh (d + 10) n_X9_rich p_X9_rich 103 b_X9_rich_12 := fun K jp hj =>
    z_iret (zd (i := .ireturn) (n := 1) (by decide +kernel)) rfl
noncomputable def t_X9_rich : List zBl := [b_X9_rich_0, b_X9_rich_1, b_X9_rich_2, b_X9_rich_3, b_X9_rich_4, b_X9_rich_5, b_X9_rich_6, b_X9_rich_7, b_X9_rich_8, b_X9_rich_9, b_X9_rich_10, b_X9_rich_11, b_X9_rich_12]
theorem tt_X9_rich (d : Nat) (hG : zGood gh) : zT (zPb l G gh (d + 10) n_X9_rich p_X9_rich) t_X9_rich p_X9_rich := ⟨s_X9_rich_0 d hG, s_X9_rich_1 d hG, s_X9_rich_2 d hG, s_X9_rich_3 d hG, s_X9_rich_4 d hG, s_X9_rich_5 d hG, s_X9_rich_6 d hG, s_X9_rich_7 d hG, s_X9_rich_8 d hG, s_X9_rich_9 d hG, s_X9_rich_10 d hG, s_X9_rich_11 d hG, s_X9_rich_12 d hG, trivial⟩
def q_X9_rich_0 : List (Nat × Nat) := [(292, zk102), (301, zk107), (302, zk111), (303, zk111), (304, zk107), (307, zk103), (308, zk103), (310, zk103), (321, zk3), (322, zk116), (323, zk104), (324, zk104)]
noncomputable def al_X9_rich_0 : zAq := [(some (.inl 9223372036854775807), [(292, zk105), (301, zk107), (302, zk111), (303, zk111), (304, zk107), (307, zk103), (308, zk103), (310, zk103), (321, zk4), (322, zk117), (323, zk104), (324, zk106)])]
def mq_X9_rich_0_1 : List (Nat × Nat) := [(292, zk105), (301, zk107), (302, zk111), (303, zk111), (304, zk107), (307, zk103), (308, zk103), (310, zk103), (321, zk4), (322, zk117), (323, zk104), (324, zk106)]
noncomputable def fm_X9_rich_0 : List zFm := [(0, [], (fun vs => [.inr (.ref 292), .inl 9223372043297226800, .inl 8589934591]), (fun vs => zP q_X9_rich_0), (fun vs => Nat.sub (Nat.add 7 0) 0)),
  (4, [(5, 2147483648, 2147483654)], (fun vs => [.inr (.ref 292), .inl 9223372043297226800, .inl 8589934591, .inl 9223372034707292165, .inl 9223372036854775807, .inl (zn 0 vs 0)]), (fun vs => zP mq_X9_rich_0_1), (fun vs => Nat.sub (Nat.add 2147483654 0) (Nat.add 0 (Nat.mul 1 (zn 0 vs 0)))))]
def bf_X9_rich_0 : List Nat := [0, 0, 0, 0, 2]
theorem r_X9_rich_0_0 : zbox [] (fun vs => zFrun (zpost (zAlq al_X9_rich_0)) 1000 t_X9_rich fm_X9_rich_0 bf_X9_rich_0 (0, vs)) = true := by decide +kernel
theorem r_X9_rich_0_1 : zbox [(5, 2147483648, 2147483654)] (fun vs => zFrun (zpost (zAlq al_X9_rich_0)) 1000 t_X9_rich fm_X9_rich_0 bf_X9_rich_0 (1, vs)) = true := by decide +kernel
set_option maxRecDepth 100000 in
theorem x_X9_rich_0 (d : Nat) (hG : zGood gh) : zS l G gh (d + 10) (zpost (zAlq al_X9_rich_0)) n_X9_rich (zn 0 p_X9_rich 0) (zwc (0, [.inr (.ref 292), .inl 9223372043297226800, .inl 8589934591], zP q_X9_rich_0) 0) := zentry (tt_X9_rich d hG) fm_X9_rich_0 bf_X9_rich_0 1000 (by decide +kernel) rfl ⟨Nat.zero_lt_succ _, trivial⟩ (fun f hf => match f, hf with
  | 0, _ => fun vs hv => (zbox_t r_X9_rich_0_0) vs hv
  | 1, _ => fun vs hv => (zbox_t r_X9_rich_0_1) vs hv
  | f + 2, h => absurd (show f + 2 < 2 from h) (Nat.not_lt.mpr (Nat.le_add_left 2 f)))
noncomputable def gs_X9_rich_0 : zMt := zgq true zUN 7 [.inr (.ref 292), .inl 9223372043297226800, .inl 8589934591] q_X9_rich_0 al_X9_rich_0
set_option maxRecDepth 100000 in
theorem cs_X9_rich_0 (d : Nat) (hG : zGood gh) : zC l G gh (d + 10) n_X9_rich gs_X9_rich_0 := zgq_ok zGood_ok (pcs := p_X9_rich) (by decide) rfl rfl (fun a ha => by simp only [al_X9_rich_0, List.mem_cons, List.not_mem_nil, or_false] at ha; rcases ha with rfl <;> decide +kernel) (fun gh hG => x_X9_rich_0 d hG) (by decide +kernel) hG
def q_X9_rich_1 : List (Nat × Nat) := []
noncomputable def al_X9_rich_1 : zAq := [(some (.inl 2147483647), [])]
noncomputable def fm_X9_rich_1 : List zFm := [(0, [], (fun vs => [.inr (.ref 292), .inl 6442450943, .inl 8589934591]), (fun vs => zP q_X9_rich_1), (fun vs => Nat.sub (Nat.add 0 0) 0))]
def bf_X9_rich_1 : List Nat := []
theorem r_X9_rich_1_0 : zbox [] (fun vs => zFrun (zpost (zAlq al_X9_rich_1)) 1000 t_X9_rich fm_X9_rich_1 bf_X9_rich_1 (0, vs)) = true := by decide +kernel
set_option maxRecDepth 100000 in
theorem x_X9_rich_1 (d : Nat) (hG : zGood gh) : zS l G gh (d + 10) (zpost (zAlq al_X9_rich_1)) n_X9_rich (zn 0 p_X9_rich 0) (zwc (0, [.inr (.ref 292), .inl 6442450943, .inl 8589934591], zP q_X9_rich_1) 0) := zentry (tt_X9_rich d hG) fm_X9_rich_1 bf_X9_rich_1 1000 (by decide +kernel) rfl ⟨Nat.zero_lt_succ _, trivial⟩ (fun f hf => match f, hf with
  | 0, _ => fun vs hv => (zbox_t r_X9_rich_1_0) vs hv
  | f + 1, h => absurd (show f + 1 < 1 from h) (Nat.not_lt.mpr (Nat.le_add_left 1 f)))
noncomputable def gs_X9_rich_1 : zMt := zgq true zUN 7 [.inr (.ref 292), .inl 6442450943, .inl 8589934591] q_X9_rich_1 al_X9_rich_1
set_option maxRecDepth 100000 in
theorem cs_X9_rich_1 (d : Nat) (hG : zGood gh) : zC l G gh (d + 10) n_X9_rich gs_X9_rich_1 := zgq_ok zGood_ok (pcs := p_X9_rich) (by decide) rfl rfl (fun a ha => by simp only [al_X9_rich_1, List.mem_cons, List.not_mem_nil, or_false] at ha; rcases ha with rfl <;> decide +kernel) (fun gh hG => x_X9_rich_1 d hG) (by decide +kernel) hG
def q_X9_rich_2 : List (Nat × Nat) := []
noncomputable def al_X9_rich_2 : zAq := [(some (.inl 2147483647), [])]
noncomputable def fm_X9_rich_2 : List zFm := [(0, [], (fun vs => [.inr (.ref 292), .inl 9223372255898107903, .inl 8589934591]), (fun vs => zP q_X9_rich_2), (fun vs => Nat.sub (Nat.add 0 0) 0))]
def bf_X9_rich_2 : List Nat := []
theorem r_X9_rich_2_0 : zbox [] (fun vs => zFrun (zpost (zAlq al_X9_rich_2)) 1000 t_X9_rich fm_X9_rich_2 bf_X9_rich_2 (0, vs)) = true := by decide +kernel
set_option maxRecDepth 100000 in
theorem x_X9_rich_2 (d : Nat) (hG : zGood gh) : zS l G gh (d + 10) (zpost (zAlq al_X9_rich_2)) n_X9_rich (zn 0 p_X9_rich 0) (zwc (0, [.inr (.ref 292), .inl 9223372255898107903, .inl 8589934591], zP q_X9_rich_2) 0) := zentry (tt_X9_rich d hG) fm_X9_rich_2 bf_X9_rich_2 1000 (by decide +kernel) rfl ⟨Nat.zero_lt_succ _, trivial⟩ (fun f hf => match f, hf with
  | 0, _ => fun vs hv => (zbox_t r_X9_rich_2_0) vs hv
  | f + 1, h => absurd (show f + 1 < 1 from h) (Nat.not_lt.mpr (Nat.le_add_left 1 f)))
noncomputable def gs_X9_rich_2 : zMt := zgq true zUN 7 [.inr (.ref 292), .inl 9223372255898107903, .inl 8589934591] q_X9_rich_2 al_X9_rich_2
set_option maxRecDepth 100000 in
theorem cs_X9_rich_2 (d : Nat) (hG : zGood gh) : zC l G gh (d + 10) n_X9_rich gs_X9_rich_2 := zgq_ok zGood_ok (pcs := p_X9_rich) (by decide) rfl rfl (fun a ha => by simp only [al_X9_rich_2, List.mem_cons, List.not_mem_nil, or_false] at ha; rcases ha with rfl <;> decide +kernel) (fun gh hG => x_X9_rich_2 d hG) (by decide +kernel) hG
noncomputable def gs_X9_rich : zMt := (zor gs_X9_rich_0 (zor gs_X9_rich_1 gs_X9_rich_2))
theorem cs_X9_rich (d : Nat) (hG : zGood gh) : zC l G gh (d + 10) n_X9_rich gs_X9_rich := (zor_ok (cs_X9_rich_0 d hG) (zor_ok (cs_X9_rich_1 d hG) (cs_X9_rich_2 d hG)))
def p_X9_book : List Nat := [0, 8, 15, 17]
noncomputable def b_X9_book_0 : zBl := fun jp K => oAld 0 <| oIld 1 <| oCv 9 1 f_X9_isSeat <| oIf zeq zne (jp 2) (jp 1)
theorem s_X9_book_0 (d : Nat) (hG : zGood gh) : zPb l G gh (d + 10) n_X9_book p_X9_book 0 b_X9_book_0 := fun K jp hj =>
    z_aload_n (n := 0) (i := 0) (zd (i := .aload_n 0) (n := 1) (by decide +kernel)) rfl <|
    z_iload_n (n := 1) (i := 1) (zd (i := .iload_n 1) (n := 1) (by decide +kernel)) rfl <|
    z_callV (idx := 378) (ci := 9) (N := n_X9_isSeat) (zd (i := .invokevirtual 378) (n := 3) (by decide +kernel)) to_X9_isSeat g1487 g1489 g75 (by decide +kernel) rfl rfl rfl (c_X9_isSeat (l := l) (G := G) (gh := gh) (d + 7)) <|
    z_if_eq (off := 10) (tgt := 15) (zd (i := .ifCond .eq (10)) (n := 3) (by decide +kernel)) (by decide +kernel) (zj (hj 2) (by decide +kernel)) (zj (hj 1) (by decide +kernel))
noncomputable def b_X9_book_1 : zBl := fun jp K => oIld 2 <| oCs 1 f_X9_isLong <| oIf zne zeq (jp 3) (jp 2)
theorem s_X9_book_1 (d : Nat) (hG : zGood gh) : zPb l G gh (d + 10) n_X9_book p_X9_book 8 b_X9_book_1 := fun K jp hj =>
    z_iload_n (n := 2) (i := 2) (zd (i := .iload_n 2) (n := 1) (by decide +kernel)) rfl <|
    z_callS (idx := 393) (N := n_X9_isLong) (zd (i := .invokestatic 393) (n := 3) (by decide +kernel)) to_X9_isLong g1543 g1544 rfl rfl (c_X9_isLong (l := l) (G := G) (gh := gh) (d + 7)) <|
    z_if_ne (off := 5) (tgt := 17) (zd (i := .ifCond .ne (5)) (n := 3) (by decide +kernel)) (by decide +kernel) (zj (hj 3) (by decide +kernel)) (zj (hj 2) (by decide +kernel))
noncomputable def b_X9_book_2 : zBl := fun jp K => oInt 2147483647 <| oIret K
theorem s_X9_book_2 (d : Nat) (hG : zGood gh) : zPb l G gh (d + 10) n_X9_book p_X9_book 15 b_X9_book_2 := fun K jp hj =>
    z_iconst (n := -1) (zd (i := .iconst (-1)) (n := 1) (by decide +kernel)) (by decide +kernel) <|
    z_iret (zd (i := .ireturn) (n := 1) (by decide +kernel)) rfl
noncomputable def b_X9_book_3 : zBl := fun jp K => oAld 0 <| oCv 9 0 gs_X9_copies <| oAld 0 <| oIld 2 <| oCv 9 1 gs_X9_goes <| oAld 0 <| oGetR 9 49 <| oInt 2147483654 <| oIld 1 <| oB2 zadd <| oXald 10 <| oAld 0 <| oIld 1 <| oCv 9 1 gs_X9_lentBy <| oB2 zadd <| oIret K
theorem s_X9_book_3 (d : Nat) (hG : zGood gh) : zPb l G gh (d + 10) n_X9_book p_X9_book 17 b_X9_book_3 := fun K jp hj =>
    z_aload_n (n := 0) (i := 0) (zd (i := .aload_n 0) (n := 1) (by decide +kernel)) rfl <|
    z_callV (idx := 375) (ci := 9) (N := n_X9_copies) (zd (i := .invokevirtual 375) (n := 3) (by decide +kernel)) to_X9_copies g1445 g1447 g67 (by decide +kernel) rfl rfl rfl (cs_X9_copies (l := l) (G := G) (gh := gh) (d + 8)) <|
    z_aload_n (n := 0) (i := 0) (zd (i := .aload_n 0) (n := 1) (by decide +kernel)) rfl <|
    z_iload_n (n := 2) (i := 2) (zd (i := .iload_n 2) (n := 1) (by decide +kernel)) rfl <|
    z_callV (idx := 396) (ci := 9) (N := n_X9_goes) (zd (i := .invokevirtual 396) (n := 3) (by decide +kernel)) to_X9_goes g1546 g1548 g82 (by decide +kernel) rfl rfl rfl (cs_X9_goes (l := l) (G := G) (gh := gh) (d) hG) <|
    z_aload_n (n := 0) (i := 0) (zd (i := .aload_n 0) (n := 1) (by decide +kernel)) rfl <|
    z_getR (ci := 9) (j := 49) (idx := 113) (zd (i := .getfield 113) (n := 3) (by decide +kernel)) (by decide +kernel) (by decide +kernel) rfl g1177 <|
    z_bipush (n := 6) (zd (i := .bipush (6)) (n := 2) (by decide +kernel)) (by decide +kernel) <|
    z_iload_n (n := 1) (i := 1) (zd (i := .iload_n 1) (n := 1) (by decide +kernel)) rfl <|
    z_iadd (zd (i := .iadd) (n := 1) (by decide +kernel)) <|
    z_iald (zd (i := .iaload) (n := 1) (by decide +kernel)) <|
    z_aload_n (n := 0) (i := 0) (zd (i := .aload_n 0) (n := 1) (by decide +kernel)) rfl <|
    z_iload_n (n := 1) (i := 1) (zd (i := .iload_n 1) (n := 1) (by decide +kernel)) rfl <|
    z_callV (idx := 384) (ci := 9) (N := n_X9_lentBy) (zd (i := .invokevirtual 384) (n := 3) (by decide +kernel)) to_X9_lentBy g1495 g1497 g77 (by decide +kernel) rfl rfl rfl (cs_X9_lentBy (l := l) (G := G) (gh := gh) (d + 8)) <|
    z_iadd (zd (i := .iadd) (n := 1) (by decide +kernel)) <|
    z_iret (zd (i := .ireturn) (n := 1) (by decide +kernel)) rfl
noncomputable def t_X9_book : List zBl := [b_X9_book_0, b_X9_book_1, b_X9_book_2, b_X9_book_3]
theorem tt_X9_book (d : Nat) (hG : zGood gh) : zT (zPb l G gh (d + 10) n_X9_book p_X9_book) t_X9_book p_X9_book := ⟨s_X9_book_0 d hG, s_X9_book_1 d hG, s_X9_book_2 d hG, s_X9_book_3 d hG, trivial⟩
def q_X9_book_0 : List (Nat × Nat) := [(292, zk102), (301, zk107), (302, zk111), (303, zk111), (304, zk107), (307, zk103), (308, zk103), (310, zk103), (321, zk3), (322, zk116), (323, zk104), (324, zk104)]
noncomputable def al_X9_book_0 : zAq := [(some (.inl 8589934591), [(292, zk105), (301, zk107), (302, zk111), (303, zk111), (304, zk107), (307, zk103), (308, zk103), (310, zk103), (321, zk4), (322, zk117), (323, zk104), (324, zk106)])]
noncomputable def fm_X9_book_0 : List zFm := [(0, [], (fun vs => [.inr (.ref 292), .inl 9223372043297226757, .inl 9223372043297226800]), (fun vs => zP q_X9_book_0), (fun vs => Nat.sub (Nat.add 0 0) 0))]
def bf_X9_book_0 : List Nat := []
theorem r_X9_book_0_0 : zbox [] (fun vs => zFrun (zpost (zAlq al_X9_book_0)) 1000 t_X9_book fm_X9_book_0 bf_X9_book_0 (0, vs)) = true := by decide +kernel
set_option maxRecDepth 100000 in
theorem x_X9_book_0 (d : Nat) (hG : zGood gh) : zS l G gh (d + 10) (zpost (zAlq al_X9_book_0)) n_X9_book (zn 0 p_X9_book 0) (zwc (0, [.inr (.ref 292), .inl 9223372043297226757, .inl 9223372043297226800], zP q_X9_book_0) 0) := zentry (tt_X9_book d hG) fm_X9_book_0 bf_X9_book_0 1000 (by decide +kernel) rfl ⟨Nat.zero_lt_succ _, trivial⟩ (fun f hf => match f, hf with
  | 0, _ => fun vs hv => (zbox_t r_X9_book_0_0) vs hv
  | f + 1, h => absurd (show f + 1 < 1 from h) (Nat.not_lt.mpr (Nat.le_add_left 1 f)))
noncomputable def gs_X9_book_0 : zMt := zgq true zUN 3 [.inr (.ref 292), .inl 9223372043297226757, .inl 9223372043297226800] q_X9_book_0 al_X9_book_0
set_option maxRecDepth 100000 in
theorem cs_X9_book_0 (d : Nat) (hG : zGood gh) : zC l G gh (d + 10) n_X9_book gs_X9_book_0 := zgq_ok zGood_ok (pcs := p_X9_book) (by decide) rfl rfl (fun a ha => by simp only [al_X9_book_0, List.mem_cons, List.not_mem_nil, or_false] at ha; rcases ha with rfl <;> decide +kernel) (fun gh hG => x_X9_book_0 d hG) (by decide +kernel) hG
def q_X9_book_1 : List (Nat × Nat) := [(292, zk102), (304, zk107)]
noncomputable def al_X9_book_1 : zAq := [(some (.inl 2147483647), [(292, zk102), (304, zk107)])]
noncomputable def fm_X9_book_1 : List zFm := [(0, [], (fun vs => [.inr (.ref 292), .inl 9223372043297226757, .inl 6442450943]), (fun vs => zP q_X9_book_1), (fun vs => Nat.sub (Nat.add 0 0) 0))]
def bf_X9_book_1 : List Nat := []
theorem r_X9_book_1_0 : zbox [] (fun vs => zFrun (zpost (zAlq al_X9_book_1)) 1000 t_X9_book fm_X9_book_1 bf_X9_book_1 (0, vs)) = true := by decide +kernel
set_option maxRecDepth 100000 in
theorem x_X9_book_1 (d : Nat) (hG : zGood gh) : zS l G gh (d + 10) (zpost (zAlq al_X9_book_1)) n_X9_book (zn 0 p_X9_book 0) (zwc (0, [.inr (.ref 292), .inl 9223372043297226757, .inl 6442450943], zP q_X9_book_1) 0) := zentry (tt_X9_book d hG) fm_X9_book_1 bf_X9_book_1 1000 (by decide +kernel) rfl ⟨Nat.zero_lt_succ _, trivial⟩ (fun f hf => match f, hf with
  | 0, _ => fun vs hv => (zbox_t r_X9_book_1_0) vs hv
  | f + 1, h => absurd (show f + 1 < 1 from h) (Nat.not_lt.mpr (Nat.le_add_left 1 f)))
noncomputable def gs_X9_book_1 : zMt := zgq true zUN 3 [.inr (.ref 292), .inl 9223372043297226757, .inl 6442450943] q_X9_book_1 al_X9_book_1
set_option maxRecDepth 100000 in
theorem cs_X9_book_1 (d : Nat) (hG : zGood gh) : zC l G gh (d + 10) n_X9_book gs_X9_book_1 := zgq_ok zGood_ok (pcs := p_X9_book) (by decide) rfl rfl (fun a ha => by simp only [al_X9_book_1, List.mem_cons, List.not_mem_nil, or_false] at ha; rcases ha with rfl <;> decide +kernel) (fun gh hG => x_X9_book_1 d hG) (by decide +kernel) hG
def q_X9_book_2 : List (Nat × Nat) := [(292, zk102), (304, zk107)]
noncomputable def al_X9_book_2 : zAq := [(some (.inl 2147483647), [(292, zk102), (304, zk107)])]
noncomputable def fm_X9_book_2 : List zFm := [(0, [], (fun vs => [.inr (.ref 292), .inl 9223372043297226757, .inl 9223372255898107903]), (fun vs => zP q_X9_book_2), (fun vs => Nat.sub (Nat.add 0 0) 0))]
def bf_X9_book_2 : List Nat := []
theorem r_X9_book_2_0 : zbox [] (fun vs => zFrun (zpost (zAlq al_X9_book_2)) 1000 t_X9_book fm_X9_book_2 bf_X9_book_2 (0, vs)) = true := by decide +kernel
set_option maxRecDepth 100000 in
theorem x_X9_book_2 (d : Nat) (hG : zGood gh) : zS l G gh (d + 10) (zpost (zAlq al_X9_book_2)) n_X9_book (zn 0 p_X9_book 0) (zwc (0, [.inr (.ref 292), .inl 9223372043297226757, .inl 9223372255898107903], zP q_X9_book_2) 0) := zentry (tt_X9_book d hG) fm_X9_book_2 bf_X9_book_2 1000 (by decide +kernel) rfl ⟨Nat.zero_lt_succ _, trivial⟩ (fun f hf => match f, hf with
  | 0, _ => fun vs hv => (zbox_t r_X9_book_2_0) vs hv
  | f + 1, h => absurd (show f + 1 < 1 from h) (Nat.not_lt.mpr (Nat.le_add_left 1 f)))
noncomputable def gs_X9_book_2 : zMt := zgq true zUN 3 [.inr (.ref 292), .inl 9223372043297226757, .inl 9223372255898107903] q_X9_book_2 al_X9_book_2
set_option maxRecDepth 100000 in
theorem cs_X9_book_2 (d : Nat) (hG : zGood gh) : zC l G gh (d + 10) n_X9_book gs_X9_book_2 := zgq_ok zGood_ok (pcs := p_X9_book) (by decide) rfl rfl (fun a ha => by simp only [al_X9_book_2, List.mem_cons, List.not_mem_nil, or_false] at ha; rcases ha with rfl <;> decide +kernel) (fun gh hG => x_X9_book_2 d hG) (by decide +kernel) hG
def q_X9_book_3 : List (Nat × Nat) := [(292, zk102), (304, zk107)]
noncomputable def al_X9_book_3 : zAq := [(some (.inl 2147483647), [(292, zk102), (304, zk107)])]
noncomputable def fm_X9_book_3 : List zFm := [(0, [], (fun vs => [.inr (.ref 292), .inl 6442450943, .inl 8589934591]), (fun vs => zP q_X9_book_3), (fun vs => Nat.sub (Nat.add 0 0) 0))]
def bf_X9_book_3 : List Nat := []
theorem r_X9_book_3_0 : zbox [] (fun vs => zFrun (zpost (zAlq al_X9_book_3)) 1000 t_X9_book fm_X9_book_3 bf_X9_book_3 (0, vs)) = true := by decide +kernel
set_option maxRecDepth 100000 in
theorem x_X9_book_3 (d : Nat) (hG : zGood gh) : zS l G gh (d + 10) (zpost (zAlq al_X9_book_3)) n_X9_book (zn 0 p_X9_book 0) (zwc (0, [.inr (.ref 292), .inl 6442450943, .inl 8589934591], zP q_X9_book_3) 0) := zentry (tt_X9_book d hG) fm_X9_book_3 bf_X9_book_3 1000 (by decide +kernel) rfl ⟨Nat.zero_lt_succ _, trivial⟩ (fun f hf => match f, hf with
  | 0, _ => fun vs hv => (zbox_t r_X9_book_3_0) vs hv
  | f + 1, h => absurd (show f + 1 < 1 from h) (Nat.not_lt.mpr (Nat.le_add_left 1 f)))
noncomputable def gs_X9_book_3 : zMt := zgq true zUN 3 [.inr (.ref 292), .inl 6442450943, .inl 8589934591] q_X9_book_3 al_X9_book_3
set_option maxRecDepth 100000 in
theorem cs_X9_book_3 (d : Nat) (hG : zGood gh) : zC l G gh (d + 10) n_X9_book gs_X9_book_3 := zgq_ok zGood_ok (pcs := p_X9_book) (by decide) rfl rfl (fun a ha => by simp only [al_X9_book_3, List.mem_cons, List.not_mem_nil, or_false] at ha; rcases ha with rfl <;> decide +kernel) (fun gh hG => x_X9_book_3 d hG) (by decide +kernel) hG
def q_X9_book_4 : List (Nat × Nat) := [(292, zk102), (304, zk107)]
noncomputable def al_X9_book_4 : zAq := [(some (.inl 2147483647), [(292, zk102), (304, zk107)])]
noncomputable def fm_X9_book_4 : List zFm := [(0, [], (fun vs => [.inr (.ref 292), .inl 9223372071214514175, .inl 8589934591]), (fun vs => zP q_X9_book_4), (fun vs => Nat.sub (Nat.add 0 0) 0))]
def bf_X9_book_4 : List Nat := []
theorem r_X9_book_4_0 : zbox [] (fun vs => zFrun (zpost (zAlq al_X9_book_4)) 1000 t_X9_book fm_X9_book_4 bf_X9_book_4 (0, vs)) = true := by decide +kernel
set_option maxRecDepth 100000 in
theorem x_X9_book_4 (d : Nat) (hG : zGood gh) : zS l G gh (d + 10) (zpost (zAlq al_X9_book_4)) n_X9_book (zn 0 p_X9_book 0) (zwc (0, [.inr (.ref 292), .inl 9223372071214514175, .inl 8589934591], zP q_X9_book_4) 0) := zentry (tt_X9_book d hG) fm_X9_book_4 bf_X9_book_4 1000 (by decide +kernel) rfl ⟨Nat.zero_lt_succ _, trivial⟩ (fun f hf => match f, hf with
  | 0, _ => fun vs hv => (zbox_t r_X9_book_4_0) vs hv
  | f + 1, h => absurd (show f + 1 < 1 from h) (Nat.not_lt.mpr (Nat.le_add_left 1 f)))
noncomputable def gs_X9_book_4 : zMt := zgq true zUN 3 [.inr (.ref 292), .inl 9223372071214514175, .inl 8589934591] q_X9_book_4 al_X9_book_4
set_option maxRecDepth 100000 in
theorem cs_X9_book_4 (d : Nat) (hG : zGood gh) : zC l G gh (d + 10) n_X9_book gs_X9_book_4 := zgq_ok zGood_ok (pcs := p_X9_book) (by decide) rfl rfl (fun a ha => by simp only [al_X9_book_4, List.mem_cons, List.not_mem_nil, or_false] at ha; rcases ha with rfl <;> decide +kernel) (fun gh hG => x_X9_book_4 d hG) (by decide +kernel) hG
noncomputable def gs_X9_book : zMt := (zor gs_X9_book_0 (zor gs_X9_book_1 (zor gs_X9_book_2 (zor gs_X9_book_3 gs_X9_book_4))))
theorem cs_X9_book (d : Nat) (hG : zGood gh) : zC l G gh (d + 10) n_X9_book gs_X9_book := (zor_ok (cs_X9_book_0 d hG) (zor_ok (cs_X9_book_1 d hG) (zor_ok (cs_X9_book_2 d hG) (zor_ok (cs_X9_book_3 d hG) (cs_X9_book_4 d hG)))))
def p_X9_lentIn : List Nat := [0, 8, 16, 23, 25, 51, 56, 70]
noncomputable def b_X9_lentIn_0 : zBl := fun jp K => oAld 0 <| oIld 1 <| oCv 9 1 f_X9_isSeat <| oIf zeq zne (jp 3) (jp 1)
theorem s_X9_lentIn_0 (d : Nat) (hG : zGood gh) : zPb l G gh (d + 10) n_X9_lentIn p_X9_lentIn 0 b_X9_lentIn_0 := fun K jp hj =>
    z_aload_n (n := 0) (i := 0) (zd (i := .aload_n 0) (n := 1) (by decide +kernel)) rfl <|
    z_iload_n (n := 1) (i := 1) (zd (i := .iload_n 1) (n := 1) (by decide +kernel)) rfl <|
    z_callV (idx := 378) (ci := 9) (N := n_X9_isSeat) (zd (i := .invokevirtual 378) (n := 3) (by decide +kernel)) to_X9_isSeat g1487 g1489 g75 (by decide +kernel) rfl rfl rfl (c_X9_isSeat (l := l) (G := G) (gh := gh) (d + 7)) <|
    z_if_eq (off := 18) (tgt := 23) (zd (i := .ifCond .eq (18)) (n := 3) (by decide +kernel)) (by decide +kernel) (zj (hj 3) (by decide +kernel)) (zj (hj 1) (by decide +kernel))
noncomputable def b_X9_lentIn_1 : zBl := fun jp K => oAld 0 <| oIld 2 <| oCv 9 1 f_X9_isThing <| oIf zeq zne (jp 3) (jp 2)
theorem s_X9_lentIn_1 (d : Nat) (hG : zGood gh) : zPb l G gh (d + 10) n_X9_lentIn p_X9_lentIn 8 b_X9_lentIn_1 := fun K jp hj =>
    z_aload_n (n := 0) (i := 0) (zd (i := .aload_n 0) (n := 1) (by decide +kernel)) rfl <|
    z_iload_n (n := 2) (i := 2) (zd (i := .iload_n 2) (n := 1) (by decide +kernel)) rfl <|
    z_callV (idx := 372) (ci := 9) (N := n_X9_isThing) (zd (i := .invokevirtual 372) (n := 3) (by decide +kernel)) to_X9_isThing g1438 g1440 g66 (by decide +kernel) rfl rfl rfl (c_X9_isThing (l := l) (G := G) (gh := gh) (d + 7)) <|
    z_if_eq (off := 10) (tgt := 23) (zd (i := .ifCond .eq (10)) (n := 3) (by decide +kernel)) (by decide +kernel) (zj (hj 3) (by decide +kernel)) (zj (hj 2) (by decide +kernel))
noncomputable def b_X9_lentIn_2 : zBl := fun jp K => oIld 3 <| oCs 1 f_X9_isLong <| oIf zne zeq (jp 4) (jp 3)
theorem s_X9_lentIn_2 (d : Nat) (hG : zGood gh) : zPb l G gh (d + 10) n_X9_lentIn p_X9_lentIn 16 b_X9_lentIn_2 := fun K jp hj =>
    z_iload_n (n := 3) (i := 3) (zd (i := .iload_n 3) (n := 1) (by decide +kernel)) rfl <|
    z_callS (idx := 393) (N := n_X9_isLong) (zd (i := .invokestatic 393) (n := 3) (by decide +kernel)) to_X9_isLong g1543 g1544 rfl rfl (c_X9_isLong (l := l) (G := G) (gh := gh) (d + 7)) <|
    z_if_ne (off := 5) (tgt := 25) (zd (i := .ifCond .ne (5)) (n := 3) (by decide +kernel)) (by decide +kernel) (zj (hj 4) (by decide +kernel)) (zj (hj 3) (by decide +kernel))
noncomputable def b_X9_lentIn_3 : zBl := fun jp K => oInt 2147483647 <| oIret K
theorem s_X9_lentIn_3 (d : Nat) (hG : zGood gh) : zPb l G gh (d + 10) n_X9_lentIn p_X9_lentIn 23 b_X9_lentIn_3 := fun K jp hj =>
    z_iconst (n := -1) (zd (i := .iconst (-1)) (n := 1) (by decide +kernel)) (by decide +kernel) <|
    z_iret (zd (i := .ireturn) (n := 1) (by decide +kernel)) rfl
noncomputable def b_X9_lentIn_4 : zBl := fun jp K => oAld 0 <| oCv 9 0 gs_X9_copies <| oAld 0 <| oIld 3 <| oCv 9 1 gs_X9_goes <| oAld 0 <| oGetR 9 49 <| oInt 2147483672 <| oInt 2147483654 <| oIld 1 <| oB2 zimul <| oB2 zadd <| oIld 2 <| oB2 zadd <| oXald 10 <| oIf zne zeq (jp 6) (jp 5)
theorem s_X9_lentIn_4 (d : Nat) (hG : zGood gh) : zPb l G gh (d + 10) n_X9_lentIn p_X9_lentIn 25 b_X9_lentIn_4 := fun K jp hj =>
    z_aload_n (n := 0) (i := 0) (zd (i := .aload_n 0) (n := 1) (by decide +kernel)) rfl <|
    z_callV (idx := 375) (ci := 9) (N := n_X9_copies) (zd (i := .invokevirtual 375) (n := 3) (by decide +kernel)) to_X9_copies g1445 g1447 g67 (by decide +kernel) rfl rfl rfl (cs_X9_copies (l := l) (G := G) (gh := gh) (d + 8)) <|
    z_aload_n (n := 0) (i := 0) (zd (i := .aload_n 0) (n := 1) (by decide +kernel)) rfl <|
    z_iload_n (n := 3) (i := 3) (zd (i := .iload_n 3) (n := 1) (by decide +kernel)) rfl <|
    z_callV (idx := 396) (ci := 9) (N := n_X9_goes) (zd (i := .invokevirtual 396) (n := 3) (by decide +kernel)) to_X9_goes g1546 g1548 g82 (by decide +kernel) rfl rfl rfl (cs_X9_goes (l := l) (G := G) (gh := gh) (d) hG) <|
    z_aload_n (n := 0) (i := 0) (zd (i := .aload_n 0) (n := 1) (by decide +kernel)) rfl <|
    z_getR (ci := 9) (j := 49) (idx := 113) (zd (i := .getfield 113) (n := 3) (by decide +kernel)) (by decide +kernel) (by decide +kernel) rfl g1177 <|
    z_bipush (n := 24) (zd (i := .bipush (24)) (n := 2) (by decide +kernel)) (by decide +kernel) <|
    z_bipush (n := 6) (zd (i := .bipush (6)) (n := 2) (by decide +kernel)) (by decide +kernel) <|
    z_iload_n (n := 1) (i := 1) (zd (i := .iload_n 1) (n := 1) (by decide +kernel)) rfl <|
    z_imul (zd (i := .imul) (n := 1) (by decide +kernel)) <|
    z_iadd (zd (i := .iadd) (n := 1) (by decide +kernel)) <|
    z_iload_n (n := 2) (i := 2) (zd (i := .iload_n 2) (n := 1) (by decide +kernel)) rfl <|
    z_iadd (zd (i := .iadd) (n := 1) (by decide +kernel)) <|
    z_iald (zd (i := .iaload) (n := 1) (by decide +kernel)) <|
    z_if_ne (off := 8) (tgt := 56) (zd (i := .ifCond .ne (8)) (n := 3) (by decide +kernel)) (by decide +kernel) (zj (hj 6) (by decide +kernel)) (zj (hj 5) (by decide +kernel))
noncomputable def b_X9_lentIn_5 : zBl := fun jp K => oInt 2147483646 <| jp 7
theorem s_X9_lentIn_5 (d : Nat) (hG : zGood gh) : zPb l G gh (d + 10) n_X9_lentIn p_X9_lentIn 51 b_X9_lentIn_5 := fun K jp hj =>
    z_bipush (n := -2) (zd (i := .bipush (-2)) (n := 2) (by decide +kernel)) (by decide +kernel) <|
    z_goto (off := 17) (tgt := 70) (zd (i := .goto (17)) (n := 3) (by decide +kernel)) (by decide +kernel) (zj (hj 7) (by decide +kernel))
noncomputable def b_X9_lentIn_6 : zBl := fun jp K => oAld 0 <| oGetR 9 49 <| oInt 2147483672 <| oInt 2147483654 <| oIld 1 <| oB2 zimul <| oB2 zadd <| oIld 2 <| oB2 zadd <| oXald 10 <| jp 7
theorem s_X9_lentIn_6 (d : Nat) (hG : zGood gh) : zPb l G gh (d + 10) n_X9_lentIn p_X9_lentIn 56 b_X9_lentIn_6 := fun K jp hj =>
    z_aload_n (n := 0) (i := 0) (zd (i := .aload_n 0) (n := 1) (by decide +kernel)) rfl <|
    z_getR (ci := 9) (j := 49) (idx := 113) (zd (i := .getfield 113) (n := 3) (by decide +kernel)) (by decide +kernel) (by decide +kernel) rfl g1177 <|
    z_bipush (n := 24) (zd (i := .bipush (24)) (n := 2) (by decide +kernel)) (by decide +kernel) <|
    z_bipush (n := 6) (zd (i := .bipush (6)) (n := 2) (by decide +kernel)) (by decide +kernel) <|
    z_iload_n (n := 1) (i := 1) (zd (i := .iload_n 1) (n := 1) (by decide +kernel)) rfl <|
    z_imul (zd (i := .imul) (n := 1) (by decide +kernel)) <|
    z_iadd (zd (i := .iadd) (n := 1) (by decide +kernel)) <|
    z_iload_n (n := 2) (i := 2) (zd (i := .iload_n 2) (n := 1) (by decide +kernel)) rfl <|
    z_iadd (zd (i := .iadd) (n := 1) (by decide +kernel)) <|
    z_iald (zd (i := .iaload) (n := 1) (by decide +kernel)) <|
    (zj (hj 7) (by decide +kernel))
noncomputable def b_X9_lentIn_7 : zBl := fun jp K => oIret K
theorem s_X9_lentIn_7 (d : Nat) (hG : zGood gh) : zPb l G gh (d + 10) n_X9_lentIn p_X9_lentIn 70 b_X9_lentIn_7 := fun K jp hj =>
    z_iret (zd (i := .ireturn) (n := 1) (by decide +kernel)) rfl
noncomputable def t_X9_lentIn : List zBl := [b_X9_lentIn_0, b_X9_lentIn_1, b_X9_lentIn_2, b_X9_lentIn_3, b_X9_lentIn_4, b_X9_lentIn_5, b_X9_lentIn_6, b_X9_lentIn_7]
theorem tt_X9_lentIn (d : Nat) (hG : zGood gh) : zT (zPb l G gh (d + 10) n_X9_lentIn p_X9_lentIn) t_X9_lentIn p_X9_lentIn := ⟨s_X9_lentIn_0 d hG, s_X9_lentIn_1 d hG, s_X9_lentIn_2 d hG, s_X9_lentIn_3 d hG, s_X9_lentIn_4 d hG, s_X9_lentIn_5 d hG, s_X9_lentIn_6 d hG, s_X9_lentIn_7 d hG, trivial⟩
def q_X9_lentIn_0 : List (Nat × Nat) := [(292, zk102), (301, zk107), (302, zk111), (303, zk111), (304, zk107), (307, zk103), (308, zk103), (310, zk103), (321, zk3), (322, zk116), (323, zk104), (324, zk104)]
noncomputable def al_X9_lentIn_0 : zAq := [(some (.inl 8589934591), [(292, zk105), (301, zk107), (302, zk111), (303, zk111), (304, zk107), (307, zk103), (308, zk103), (310, zk103), (321, zk4), (322, zk117), (323, zk104), (324, zk106)])]
noncomputable def fm_X9_lentIn_0 : List zFm := [(0, [], (fun vs => [.inr (.ref 292), .inl 9223372043297226757, .inl 9223372043297226757, .inl 9223372043297226800]), (fun vs => zP q_X9_lentIn_0), (fun vs => Nat.sub (Nat.add 0 0) 0))]
def bf_X9_lentIn_0 : List Nat := []
theorem r_X9_lentIn_0_0 : zbox [] (fun vs => zFrun (zpost (zAlq al_X9_lentIn_0)) 1000 t_X9_lentIn fm_X9_lentIn_0 bf_X9_lentIn_0 (0, vs)) = true := by decide +kernel
set_option maxRecDepth 100000 in
theorem x_X9_lentIn_0 (d : Nat) (hG : zGood gh) : zS l G gh (d + 10) (zpost (zAlq al_X9_lentIn_0)) n_X9_lentIn (zn 0 p_X9_lentIn 0) (zwc (0, [.inr (.ref 292), .inl 9223372043297226757, .inl 9223372043297226757, .inl 9223372043297226800], zP q_X9_lentIn_0) 0) := zentry (tt_X9_lentIn d hG) fm_X9_lentIn_0 bf_X9_lentIn_0 1000 (by decide +kernel) rfl ⟨Nat.zero_lt_succ _, trivial⟩ (fun f hf => match f, hf with
  | 0, _ => fun vs hv => (zbox_t r_X9_lentIn_0_0) vs hv
  | f + 1, h => absurd (show f + 1 < 1 from h) (Nat.not_lt.mpr (Nat.le_add_left 1 f)))
noncomputable def gs_X9_lentIn_0 : zMt := zgq true zUN 4 [.inr (.ref 292), .inl 9223372043297226757, .inl 9223372043297226757, .inl 9223372043297226800] q_X9_lentIn_0 al_X9_lentIn_0
set_option maxRecDepth 100000 in
theorem cs_X9_lentIn_0 (d : Nat) (hG : zGood gh) : zC l G gh (d + 10) n_X9_lentIn gs_X9_lentIn_0 := zgq_ok zGood_ok (pcs := p_X9_lentIn) (by decide) rfl rfl (fun a ha => by simp only [al_X9_lentIn_0, List.mem_cons, List.not_mem_nil, or_false] at ha; rcases ha with rfl <;> decide +kernel) (fun gh hG => x_X9_lentIn_0 d hG) (by decide +kernel) hG
def q_X9_lentIn_1 : List (Nat × Nat) := [(292, zk102), (301, zk107), (304, zk107)]
noncomputable def al_X9_lentIn_1 : zAq := [(some (.inl 2147483647), [(292, zk102), (301, zk107), (304, zk107)])]
noncomputable def fm_X9_lentIn_1 : List zFm := [(0, [], (fun vs => [.inr (.ref 292), .inl 9223372043297226757, .inl 9223372043297226757, .inl 6442450943]), (fun vs => zP q_X9_lentIn_1), (fun vs => Nat.sub (Nat.add 0 0) 0))]
def bf_X9_lentIn_1 : List Nat := []
theorem r_X9_lentIn_1_0 : zbox [] (fun vs => zFrun (zpost (zAlq al_X9_lentIn_1)) 1000 t_X9_lentIn fm_X9_lentIn_1 bf_X9_lentIn_1 (0, vs)) = true := by decide +kernel
set_option maxRecDepth 100000 in
theorem x_X9_lentIn_1 (d : Nat) (hG : zGood gh) : zS l G gh (d + 10) (zpost (zAlq al_X9_lentIn_1)) n_X9_lentIn (zn 0 p_X9_lentIn 0) (zwc (0, [.inr (.ref 292), .inl 9223372043297226757, .inl 9223372043297226757, .inl 6442450943], zP q_X9_lentIn_1) 0) := zentry (tt_X9_lentIn d hG) fm_X9_lentIn_1 bf_X9_lentIn_1 1000 (by decide +kernel) rfl ⟨Nat.zero_lt_succ _, trivial⟩ (fun f hf => match f, hf with
  | 0, _ => fun vs hv => (zbox_t r_X9_lentIn_1_0) vs hv
  | f + 1, h => absurd (show f + 1 < 1 from h) (Nat.not_lt.mpr (Nat.le_add_left 1 f)))
noncomputable def gs_X9_lentIn_1 : zMt := zgq true zUN 4 [.inr (.ref 292), .inl 9223372043297226757, .inl 9223372043297226757, .inl 6442450943] q_X9_lentIn_1 al_X9_lentIn_1
set_option maxRecDepth 100000 in
theorem cs_X9_lentIn_1 (d : Nat) (hG : zGood gh) : zC l G gh (d + 10) n_X9_lentIn gs_X9_lentIn_1 := zgq_ok zGood_ok (pcs := p_X9_lentIn) (by decide) rfl rfl (fun a ha => by simp only [al_X9_lentIn_1, List.mem_cons, List.not_mem_nil, or_false] at ha; rcases ha with rfl <;> decide +kernel) (fun gh hG => x_X9_lentIn_1 d hG) (by decide +kernel) hG
def q_X9_lentIn_2 : List (Nat × Nat) := [(292, zk102), (301, zk107), (304, zk107)]
noncomputable def al_X9_lentIn_2 : zAq := [(some (.inl 2147483647), [(292, zk102), (301, zk107), (304, zk107)])]
noncomputable def fm_X9_lentIn_2 : List zFm := [(0, [], (fun vs => [.inr (.ref 292), .inl 9223372043297226757, .inl 9223372043297226757, .inl 9223372255898107903]), (fun vs => zP q_X9_lentIn_2), (fun vs => Nat.sub (Nat.add 0 0) 0))]
def bf_X9_lentIn_2 : List Nat := []
theorem r_X9_lentIn_2_0 : zbox [] (fun vs => zFrun (zpost (zAlq al_X9_lentIn_2)) 1000 t_X9_lentIn fm_X9_lentIn_2 bf_X9_lentIn_2 (0, vs)) = true := by decide +kernel
set_option maxRecDepth 100000 in
theorem x_X9_lentIn_2 (d : Nat) (hG : zGood gh) : zS l G gh (d + 10) (zpost (zAlq al_X9_lentIn_2)) n_X9_lentIn (zn 0 p_X9_lentIn 0) (zwc (0, [.inr (.ref 292), .inl 9223372043297226757, .inl 9223372043297226757, .inl 9223372255898107903], zP q_X9_lentIn_2) 0) := zentry (tt_X9_lentIn d hG) fm_X9_lentIn_2 bf_X9_lentIn_2 1000 (by decide +kernel) rfl ⟨Nat.zero_lt_succ _, trivial⟩ (fun f hf => match f, hf with
  | 0, _ => fun vs hv => (zbox_t r_X9_lentIn_2_0) vs hv
  | f + 1, h => absurd (show f + 1 < 1 from h) (Nat.not_lt.mpr (Nat.le_add_left 1 f)))
noncomputable def gs_X9_lentIn_2 : zMt := zgq true zUN 4 [.inr (.ref 292), .inl 9223372043297226757, .inl 9223372043297226757, .inl 9223372255898107903] q_X9_lentIn_2 al_X9_lentIn_2
set_option maxRecDepth 100000 in
theorem cs_X9_lentIn_2 (d : Nat) (hG : zGood gh) : zC l G gh (d + 10) n_X9_lentIn gs_X9_lentIn_2 := zgq_ok zGood_ok (pcs := p_X9_lentIn) (by decide) rfl rfl (fun a ha => by simp only [al_X9_lentIn_2, List.mem_cons, List.not_mem_nil, or_false] at ha; rcases ha with rfl <;> decide +kernel) (fun gh hG => x_X9_lentIn_2 d hG) (by decide +kernel) hG
def q_X9_lentIn_3 : List (Nat × Nat) := [(292, zk102), (301, zk107), (304, zk107)]
noncomputable def al_X9_lentIn_3 : zAq := [(some (.inl 2147483647), [(292, zk102), (301, zk107), (304, zk107)])]
noncomputable def fm_X9_lentIn_3 : List zFm := [(0, [], (fun vs => [.inr (.ref 292), .inl 9223372043297226757, .inl 6442450943, .inl 8589934591]), (fun vs => zP q_X9_lentIn_3), (fun vs => Nat.sub (Nat.add 0 0) 0))]
def bf_X9_lentIn_3 : List Nat := []
theorem r_X9_lentIn_3_0 : zbox [] (fun vs => zFrun (zpost (zAlq al_X9_lentIn_3)) 1000 t_X9_lentIn fm_X9_lentIn_3 bf_X9_lentIn_3 (0, vs)) = true := by decide +kernel
set_option maxRecDepth 100000 in
theorem x_X9_lentIn_3 (d : Nat) (hG : zGood gh) : zS l G gh (d + 10) (zpost (zAlq al_X9_lentIn_3)) n_X9_lentIn (zn 0 p_X9_lentIn 0) (zwc (0, [.inr (.ref 292), .inl 9223372043297226757, .inl 6442450943, .inl 8589934591], zP q_X9_lentIn_3) 0) := zentry (tt_X9_lentIn d hG) fm_X9_lentIn_3 bf_X9_lentIn_3 1000 (by decide +kernel) rfl ⟨Nat.zero_lt_succ _, trivial⟩ (fun f hf => match f, hf with
  | 0, _ => fun vs hv => (zbox_t r_X9_lentIn_3_0) vs hv
  | f + 1, h => absurd (show f + 1 < 1 from h) (Nat.not_lt.mpr (Nat.le_add_left 1 f)))
noncomputable def gs_X9_lentIn_3 : zMt := zgq true zUN 4 [.inr (.ref 292), .inl 9223372043297226757, .inl 6442450943, .inl 8589934591] q_X9_lentIn_3 al_X9_lentIn_3
set_option maxRecDepth 100000 in
theorem cs_X9_lentIn_3 (d : Nat) (hG : zGood gh) : zC l G gh (d + 10) n_X9_lentIn gs_X9_lentIn_3 := zgq_ok zGood_ok (pcs := p_X9_lentIn) (by decide) rfl rfl (fun a ha => by simp only [al_X9_lentIn_3, List.mem_cons, List.not_mem_nil, or_false] at ha; rcases ha with rfl <;> decide +kernel) (fun gh hG => x_X9_lentIn_3 d hG) (by decide +kernel) hG
def q_X9_lentIn_4 : List (Nat × Nat) := [(292, zk102), (301, zk107), (304, zk107)]
noncomputable def al_X9_lentIn_4 : zAq := [(some (.inl 2147483647), [(292, zk102), (301, zk107), (304, zk107)])]
noncomputable def fm_X9_lentIn_4 : List zFm := [(0, [], (fun vs => [.inr (.ref 292), .inl 9223372043297226757, .inl 9223372071214514175, .inl 8589934591]), (fun vs => zP q_X9_lentIn_4), (fun vs => Nat.sub (Nat.add 0 0) 0))]
def bf_X9_lentIn_4 : List Nat := []
theorem r_X9_lentIn_4_0 : zbox [] (fun vs => zFrun (zpost (zAlq al_X9_lentIn_4)) 1000 t_X9_lentIn fm_X9_lentIn_4 bf_X9_lentIn_4 (0, vs)) = true := by decide +kernel
set_option maxRecDepth 100000 in
theorem x_X9_lentIn_4 (d : Nat) (hG : zGood gh) : zS l G gh (d + 10) (zpost (zAlq al_X9_lentIn_4)) n_X9_lentIn (zn 0 p_X9_lentIn 0) (zwc (0, [.inr (.ref 292), .inl 9223372043297226757, .inl 9223372071214514175, .inl 8589934591], zP q_X9_lentIn_4) 0) := zentry (tt_X9_lentIn d hG) fm_X9_lentIn_4 bf_X9_lentIn_4 1000 (by decide +kernel) rfl ⟨Nat.zero_lt_succ _, trivial⟩ (fun f hf => match f, hf with
  | 0, _ => fun vs hv => (zbox_t r_X9_lentIn_4_0) vs hv
  | f + 1, h => absurd (show f + 1 < 1 from h) (Nat.not_lt.mpr (Nat.le_add_left 1 f)))
noncomputable def gs_X9_lentIn_4 : zMt := zgq true zUN 4 [.inr (.ref 292), .inl 9223372043297226757, .inl 9223372071214514175, .inl 8589934591] q_X9_lentIn_4 al_X9_lentIn_4
set_option maxRecDepth 100000 in
theorem cs_X9_lentIn_4 (d : Nat) (hG : zGood gh) : zC l G gh (d + 10) n_X9_lentIn gs_X9_lentIn_4 := zgq_ok zGood_ok (pcs := p_X9_lentIn) (by decide) rfl rfl (fun a ha => by simp only [al_X9_lentIn_4, List.mem_cons, List.not_mem_nil, or_false] at ha; rcases ha with rfl <;> decide +kernel) (fun gh hG => x_X9_lentIn_4 d hG) (by decide +kernel) hG
def q_X9_lentIn_5 : List (Nat × Nat) := [(292, zk102), (304, zk107)]
noncomputable def al_X9_lentIn_5 : zAq := [(some (.inl 2147483647), [(292, zk102), (304, zk107)])]
noncomputable def fm_X9_lentIn_5 : List zFm := [(0, [], (fun vs => [.inr (.ref 292), .inl 6442450943, .inl 8589934591, .inl 8589934591]), (fun vs => zP q_X9_lentIn_5), (fun vs => Nat.sub (Nat.add 0 0) 0))]
def bf_X9_lentIn_5 : List Nat := []
theorem r_X9_lentIn_5_0 : zbox [] (fun vs => zFrun (zpost (zAlq al_X9_lentIn_5)) 1000 t_X9_lentIn fm_X9_lentIn_5 bf_X9_lentIn_5 (0, vs)) = true := by decide +kernel
set_option maxRecDepth 100000 in
theorem x_X9_lentIn_5 (d : Nat) (hG : zGood gh) : zS l G gh (d + 10) (zpost (zAlq al_X9_lentIn_5)) n_X9_lentIn (zn 0 p_X9_lentIn 0) (zwc (0, [.inr (.ref 292), .inl 6442450943, .inl 8589934591, .inl 8589934591], zP q_X9_lentIn_5) 0) := zentry (tt_X9_lentIn d hG) fm_X9_lentIn_5 bf_X9_lentIn_5 1000 (by decide +kernel) rfl ⟨Nat.zero_lt_succ _, trivial⟩ (fun f hf => match f, hf with
  | 0, _ => fun vs hv => (zbox_t r_X9_lentIn_5_0) vs hv
  | f + 1, h => absurd (show f + 1 < 1 from h) (Nat.not_lt.mpr (Nat.le_add_left 1 f)))
noncomputable def gs_X9_lentIn_5 : zMt := zgq true zUN 4 [.inr (.ref 292), .inl 6442450943, .inl 8589934591, .inl 8589934591] q_X9_lentIn_5 al_X9_lentIn_5
set_option maxRecDepth 100000 in
theorem cs_X9_lentIn_5 (d : Nat) (hG : zGood gh) : zC l G gh (d + 10) n_X9_lentIn gs_X9_lentIn_5 := zgq_ok zGood_ok (pcs := p_X9_lentIn) (by decide) rfl rfl (fun a ha => by simp only [al_X9_lentIn_5, List.mem_cons, List.not_mem_nil, or_false] at ha; rcases ha with rfl <;> decide +kernel) (fun gh hG => x_X9_lentIn_5 d hG) (by decide +kernel) hG
def q_X9_lentIn_6 : List (Nat × Nat) := [(292, zk102), (304, zk107)]
noncomputable def al_X9_lentIn_6 : zAq := [(some (.inl 2147483647), [(292, zk102), (304, zk107)])]
noncomputable def fm_X9_lentIn_6 : List zFm := [(0, [], (fun vs => [.inr (.ref 292), .inl 9223372071214514175, .inl 8589934591, .inl 8589934591]), (fun vs => zP q_X9_lentIn_6), (fun vs => Nat.sub (Nat.add 0 0) 0))]
def bf_X9_lentIn_6 : List Nat := []
theorem r_X9_lentIn_6_0 : zbox [] (fun vs => zFrun (zpost (zAlq al_X9_lentIn_6)) 1000 t_X9_lentIn fm_X9_lentIn_6 bf_X9_lentIn_6 (0, vs)) = true := by decide +kernel
set_option maxRecDepth 100000 in
theorem x_X9_lentIn_6 (d : Nat) (hG : zGood gh) : zS l G gh (d + 10) (zpost (zAlq al_X9_lentIn_6)) n_X9_lentIn (zn 0 p_X9_lentIn 0) (zwc (0, [.inr (.ref 292), .inl 9223372071214514175, .inl 8589934591, .inl 8589934591], zP q_X9_lentIn_6) 0) := zentry (tt_X9_lentIn d hG) fm_X9_lentIn_6 bf_X9_lentIn_6 1000 (by decide +kernel) rfl ⟨Nat.zero_lt_succ _, trivial⟩ (fun f hf => match f, hf with
  | 0, _ => fun vs hv => (zbox_t r_X9_lentIn_6_0) vs hv
  | f + 1, h => absurd (show f + 1 < 1 from h) (Nat.not_lt.mpr (Nat.le_add_left 1 f)))
noncomputable def gs_X9_lentIn_6 : zMt := zgq true zUN 4 [.inr (.ref 292), .inl 9223372071214514175, .inl 8589934591, .inl 8589934591] q_X9_lentIn_6 al_X9_lentIn_6
set_option maxRecDepth 100000 in
theorem cs_X9_lentIn_6 (d : Nat) (hG : zGood gh) : zC l G gh (d + 10) n_X9_lentIn gs_X9_lentIn_6 := zgq_ok zGood_ok (pcs := p_X9_lentIn) (by decide) rfl rfl (fun a ha => by simp only [al_X9_lentIn_6, List.mem_cons, List.not_mem_nil, or_false] at ha; rcases ha with rfl <;> decide +kernel) (fun gh hG => x_X9_lentIn_6 d hG) (by decide +kernel) hG
noncomputable def gs_X9_lentIn : zMt := (zor gs_X9_lentIn_0 (zor gs_X9_lentIn_1 (zor gs_X9_lentIn_2 (zor gs_X9_lentIn_3 (zor gs_X9_lentIn_4 (zor gs_X9_lentIn_5 gs_X9_lentIn_6))))))
theorem cs_X9_lentIn (d : Nat) (hG : zGood gh) : zC l G gh (d + 10) n_X9_lentIn gs_X9_lentIn := (zor_ok (cs_X9_lentIn_0 d hG) (zor_ok (cs_X9_lentIn_1 d hG) (zor_ok (cs_X9_lentIn_2 d hG) (zor_ok (cs_X9_lentIn_3 d hG) (zor_ok (cs_X9_lentIn_4 d hG) (zor_ok (cs_X9_lentIn_5 d hG) (cs_X9_lentIn_6 d hG)))))))
def p_X9_year : List Nat := [0, 8, 16, 23, 34, 36, 42, 49, 86, 89, 95]
noncomputable def b_X9_year_0 : zBl := fun jp K => oAld 0 <| oIld 1 <| oCv 9 1 f_X9_isSeat <| oIf zeq zne (jp 4) (jp 1)
theorem s_X9_year_0 (d : Nat) (hG : zGood gh) : zPb l G gh (d + 10) n_X9_year p_X9_year 0 b_X9_year_0 := fun K jp hj =>
    z_aload_n (n := 0) (i := 0) (zd (i := .aload_n 0) (n := 1) (by decide +kernel)) rfl <|
    z_iload_n (n := 1) (i := 1) (zd (i := .iload_n 1) (n := 1) (by decide +kernel)) rfl <|
    z_callV (idx := 378) (ci := 9) (N := n_X9_isSeat) (zd (i := .invokevirtual 378) (n := 3) (by decide +kernel)) to_X9_isSeat g1487 g1489 g75 (by decide +kernel) rfl rfl rfl (c_X9_isSeat (l := l) (G := G) (gh := gh) (d + 7)) <|
    z_if_eq (off := 29) (tgt := 34) (zd (i := .ifCond .eq (29)) (n := 3) (by decide +kernel)) (by decide +kernel) (zj (hj 4) (by decide +kernel)) (zj (hj 1) (by decide +kernel))
noncomputable def b_X9_year_1 : zBl := fun jp K => oAld 0 <| oIld 2 <| oCv 9 1 f_X9_isThing <| oIf zeq zne (jp 4) (jp 2)
theorem s_X9_year_1 (d : Nat) (hG : zGood gh) : zPb l G gh (d + 10) n_X9_year p_X9_year 8 b_X9_year_1 := fun K jp hj =>
    z_aload_n (n := 0) (i := 0) (zd (i := .aload_n 0) (n := 1) (by decide +kernel)) rfl <|
    z_iload_n (n := 2) (i := 2) (zd (i := .iload_n 2) (n := 1) (by decide +kernel)) rfl <|
    z_callV (idx := 372) (ci := 9) (N := n_X9_isThing) (zd (i := .invokevirtual 372) (n := 3) (by decide +kernel)) to_X9_isThing g1438 g1440 g66 (by decide +kernel) rfl rfl rfl (c_X9_isThing (l := l) (G := G) (gh := gh) (d + 7)) <|
    z_if_eq (off := 21) (tgt := 34) (zd (i := .ifCond .eq (21)) (n := 3) (by decide +kernel)) (by decide +kernel) (zj (hj 4) (by decide +kernel)) (zj (hj 2) (by decide +kernel))
noncomputable def b_X9_year_2 : zBl := fun jp K => oIld 3 <| oCs 1 f_X9_isLong <| oIf zeq zne (jp 4) (jp 3)
theorem s_X9_year_2 (d : Nat) (hG : zGood gh) : zPb l G gh (d + 10) n_X9_year p_X9_year 16 b_X9_year_2 := fun K jp hj =>
    z_iload_n (n := 3) (i := 3) (zd (i := .iload_n 3) (n := 1) (by decide +kernel)) rfl <|
    z_callS (idx := 393) (N := n_X9_isLong) (zd (i := .invokestatic 393) (n := 3) (by decide +kernel)) to_X9_isLong g1543 g1544 rfl rfl (c_X9_isLong (l := l) (G := G) (gh := gh) (d + 7)) <|
    z_if_eq (off := 14) (tgt := 34) (zd (i := .ifCond .eq (14)) (n := 3) (by decide +kernel)) (by decide +kernel) (zj (hj 4) (by decide +kernel)) (zj (hj 3) (by decide +kernel))
noncomputable def b_X9_year_3 : zBl := fun jp K => oIld 4 <| oInt 2147483649 <| oInt 2147483668 <| oCs 3 f_X9_in <| oIf zne zeq (jp 5) (jp 4)
theorem s_X9_year_3 (d : Nat) (hG : zGood gh) : zPb l G gh (d + 10) n_X9_year p_X9_year 23 b_X9_year_3 := fun K jp hj =>
    z_iload (i := 4) (zd (i := .iload 4) (n := 2) (by decide +kernel)) <|
    z_iconst (n := 1) (zd (i := .iconst (1)) (n := 1) (by decide +kernel)) (by decide +kernel) <|
    z_bipush (n := 20) (zd (i := .bipush (20)) (n := 2) (by decide +kernel)) (by decide +kernel) <|
    z_callS (idx := 304) (N := n_X9_in) (zd (i := .invokestatic 304) (n := 3) (by decide +kernel)) to_X9_in g1442 g1443 rfl rfl (c_X9_in (l := l) (G := G) (gh := gh) (d + 8)) <|
    z_if_ne (off := 5) (tgt := 36) (zd (i := .ifCond .ne (5)) (n := 3) (by decide +kernel)) (by decide +kernel) (zj (hj 5) (by decide +kernel)) (zj (hj 4) (by decide +kernel))
noncomputable def b_X9_year_4 : zBl := fun jp K => oInt 2147483647 <| oIret K
theorem s_X9_year_4 (d : Nat) (hG : zGood gh) : zPb l G gh (d + 10) n_X9_year p_X9_year 34 b_X9_year_4 := fun K jp hj =>
    z_iconst (n := -1) (zd (i := .iconst (-1)) (n := 1) (by decide +kernel)) (by decide +kernel) <|
    z_iret (zd (i := .ireturn) (n := 1) (by decide +kernel)) rfl
noncomputable def b_X9_year_5 : zBl := fun jp K => oInt 2147483648 <| oIst 5 <| oInt 2147483648 <| oIst 6 <| jp 6
theorem s_X9_year_5 (d : Nat) (hG : zGood gh) : zPb l G gh (d + 10) n_X9_year p_X9_year 36 b_X9_year_5 := fun K jp hj =>
    z_iconst (n := 0) (zd (i := .iconst (0)) (n := 1) (by decide +kernel)) (by decide +kernel) <|
    z_istore (i := 5) (zd (i := .istore 5) (n := 2) (by decide +kernel)) (by decide +kernel) <|
    z_iconst (n := 0) (zd (i := .iconst (0)) (n := 1) (by decide +kernel)) (by decide +kernel) <|
    z_istore (i := 6) (zd (i := .istore 6) (n := 2) (by decide +kernel)) (by decide +kernel) <|
    (zj (hj 6) (by decide +kernel))
noncomputable def b_X9_year_6 : zBl := fun jp K => oNLL 6 4 zgeN zltN zn1_ge zn2_ge zn1_lt zn2_lt (jp 10) (jp 7)
theorem s_X9_year_6 (d : Nat) (hG : zGood gh) : zPb l G gh (d + 10) n_X9_year p_X9_year 42 b_X9_year_6 := fun K jp hj =>
    z_nLL_ge (i := 6) (j := 4) (a1 := 2) (a2 := 2) (off := 49) (tgt := 95) (zLd_w (i := 6) (zd (i := .iload 6) (n := 2) (by decide +kernel))) (zLd_w (i := 4) (zd (i := .iload 4) (n := 2) (by decide +kernel))) (zd (i := .if_icmp .ge (49)) (n := 3) (by decide +kernel)) (by decide +kernel) (zj (hj 10) (by decide +kernel)) (zj (hj 7) (by decide +kernel))
noncomputable def b_X9_year_7 : zBl := fun jp K => oAld 0 <| oCv 9 0 gs_X9_copies <| oAld 0 <| oDup <| oGetI 9 50 <| oIld 6 <| oB2 zadd <| oPutI 9 50 <| oAld 0 <| oIld 3 <| oCv 9 1 gs_X9_goes <| oAld 0 <| oGetR 9 49 <| oInt 2147483672 <| oInt 2147483654 <| oIld 1 <| oB2 zimul <| oB2 zadd <| oIld 2 <| oB2 zadd <| oXald 10 <| oIf zle zgt (jp 9) (jp 8)
theorem s_X9_year_7 (d : Nat) (hG : zGood gh) : zPb l G gh (d + 10) n_X9_year p_X9_year 49 b_X9_year_7 := fun K jp hj =>
    z_aload_n (n := 0) (i := 0) (zd (i := .aload_n 0) (n := 1) (by decide +kernel)) rfl <|
    z_callV (idx := 375) (ci := 9) (N := n_X9_copies) (zd (i := .invokevirtual 375) (n := 3) (by decide +kernel)) to_X9_copies g1445 g1447 g67 (by decide +kernel) rfl rfl rfl (cs_X9_copies (l := l) (G := G) (gh := gh) (d + 8)) <|
    z_aload_n (n := 0) (i := 0) (zd (i := .aload_n 0) (n := 1) (by decide +kernel)) rfl <|
    z_dup (zd (i := .dup) (n := 1) (by decide +kernel)) <|
    z_getI (ci := 9) (j := 50) (idx := 308) (zd (i := .getfield 308) (n := 3) (by decide +kernel)) (by decide +kernel) (by decide +kernel) rfl g1178 <|
    z_iload (i := 6) (zd (i := .iload 6) (n := 2) (by decide +kernel)) <|
    z_iadd (zd (i := .iadd) (n := 1) (by decide +kernel)) <|
    z_putI (ci := 9) (j := 50) (idx := 308) (zd (i := .putfield 308) (n := 3) (by decide +kernel)) (by decide +kernel) (by decide +kernel) rfl g1178 (Or.inl rfl) <|
    z_aload_n (n := 0) (i := 0) (zd (i := .aload_n 0) (n := 1) (by decide +kernel)) rfl <|
    z_iload_n (n := 3) (i := 3) (zd (i := .iload_n 3) (n := 1) (by decide +kernel)) rfl <|
    z_callV (idx := 396) (ci := 9) (N := n_X9_goes) (zd (i := .invokevirtual 396) (n := 3) (by decide +kernel)) to_X9_goes g1546 g1548 g82 (by decide +kernel) rfl rfl rfl (cs_X9_goes (l := l) (G := G) (gh := gh) (d) hG) <|
    z_aload_n (n := 0) (i := 0) (zd (i := .aload_n 0) (n := 1) (by decide +kernel)) rfl <|
    z_getR (ci := 9) (j := 49) (idx := 113) (zd (i := .getfield 113) (n := 3) (by decide +kernel)) (by decide +kernel) (by decide +kernel) rfl g1177 <|
    z_bipush (n := 24) (zd (i := .bipush (24)) (n := 2) (by decide +kernel)) (by decide +kernel) <|
    z_bipush (n := 6) (zd (i := .bipush (6)) (n := 2) (by decide +kernel)) (by decide +kernel) <|
    z_iload_n (n := 1) (i := 1) (zd (i := .iload_n 1) (n := 1) (by decide +kernel)) rfl <|
    z_imul (zd (i := .imul) (n := 1) (by decide +kernel)) <|
    z_iadd (zd (i := .iadd) (n := 1) (by decide +kernel)) <|
    z_iload_n (n := 2) (i := 2) (zd (i := .iload_n 2) (n := 1) (by decide +kernel)) rfl <|
    z_iadd (zd (i := .iadd) (n := 1) (by decide +kernel)) <|
    z_iald (zd (i := .iaload) (n := 1) (by decide +kernel)) <|
    z_if_le (off := 6) (tgt := 89) (zd (i := .ifCond .le (6)) (n := 3) (by decide +kernel)) (by decide +kernel) (zj (hj 9) (by decide +kernel)) (zj (hj 8) (by decide +kernel))
noncomputable def b_X9_year_8 : zBl := fun jp K => oInc 5 2147483649 <| jp 9
theorem s_X9_year_8 (d : Nat) (hG : zGood gh) : zPb l G gh (d + 10) n_X9_year p_X9_year 86 b_X9_year_8 := fun K jp hj =>
    z_iinc (i := 5) (n := 1) (zd (i := .iinc 5 (1)) (n := 3) (by decide +kernel)) (by decide +kernel) (by decide +kernel) <|
    (zj (hj 9) (by decide +kernel))
noncomputable def b_X9_year_9 : zBl := fun jp K => oInc 6 2147483649 <| jp 6
theorem s_X9_year_9 (d : Nat) (hG : zGood gh) : zPb l G gh (d + 10) n_X9_year p_X9_year 89 b_X9_year_9 := fun K jp hj =>
    z_iinc (i := 6) (n := 1) (zd (i := .iinc 6 (1)) (n := 3) (by decide +kernel)) (by decide +kernel) (by decide +kernel) <|
    z_goto (off := -50) (tgt := 42) (zd (i := .goto (-50)) (n := 3) (by decide +kernel)) (by decide +kernel) (zj (hj 6) (by decide +kernel))
noncomputable def b_X9_year_10 : zBl := fun jp K => oIld 5 <| oIret K
theorem s_X9_year_10 (d : Nat) (hG : zGood gh) : zPb l G gh (d + 10) n_X9_year p_X9_year 95 b_X9_year_10 := fun K jp hj =>
    z_iload (i := 5) (zd (i := .iload 5) (n := 2) (by decide +kernel)) <|
    z_iret (zd (i := .ireturn) (n := 1) (by decide +kernel)) rfl
noncomputable def t_X9_year : List zBl := [b_X9_year_0, b_X9_year_1, b_X9_year_2, b_X9_year_3, b_X9_year_4, b_X9_year_5, b_X9_year_6, b_X9_year_7, b_X9_year_8, b_X9_year_9, b_X9_year_10]
theorem tt_X9_year (d : Nat) (hG : zGood gh) : zT (zPb l G gh (d + 10) n_X9_year p_X9_year) t_X9_year p_X9_year := ⟨s_X9_year_0 d hG, s_X9_year_1 d hG, s_X9_year_2 d hG, s_X9_year_3 d hG, s_X9_year_4 d hG, s_X9_year_5 d hG, s_X9_year_6 d hG, s_X9_year_7 d hG, s_X9_year_8 d hG, s_X9_year_9 d hG, s_X9_year_10 d hG, trivial⟩
def q_X9_year_0 : List (Nat × Nat) := [(292, zk102), (301, zk107), (302, zk111), (303, zk111), (304, zk107), (307, zk103), (308, zk103), (310, zk103), (321, zk3), (322, zk116), (323, zk104), (324, zk104)]
noncomputable def al_X9_year_0 : zAq := [(some (.inl 8589934591), [(292, zk105), (301, zk107), (302, zk111), (303, zk111), (304, zk107), (307, zk103), (308, zk103), (310, zk103), (321, zk4), (322, zk117), (323, zk104), (324, zk106)])]
def mq_X9_year_0_1 : List (Nat × Nat) := [(292, zk105), (301, zk107), (302, zk111), (303, zk111), (304, zk107), (307, zk103), (308, zk103), (310, zk103), (321, zk4), (322, zk117), (323, zk104), (324, zk106)]
noncomputable def fm_X9_year_0 : List zFm := [(0, [], (fun vs => [.inr (.ref 292), .inl 9223372043297226757, .inl 9223372043297226757, .inl 9223372043297226800, .inl 9223372047592194068]), (fun vs => zP q_X9_year_0), (fun vs => Nat.sub (Nat.add 21 0) 0)),
  (6, [(6, 2147483648, 2147483668)], (fun vs => [.inr (.ref 292), .inl 9223372043297226757, .inl 9223372043297226757, .inl 9223372043297226800, .inl 9223372047592194068, .inl 8589934591, .inl (zn 0 vs 0)]), (fun vs => zP mq_X9_year_0_1), (fun vs => Nat.sub (Nat.add 2147483668 0) (Nat.add 0 (Nat.mul 1 (zn 0 vs 0)))))]
def bf_X9_year_0 : List Nat := [0, 0, 0, 0, 0, 0, 2]
theorem r_X9_year_0_0 : zbox [] (fun vs => zFrun (zpost (zAlq al_X9_year_0)) 1000 t_X9_year fm_X9_year_0 bf_X9_year_0 (0, vs)) = true := by decide +kernel
theorem r_X9_year_0_1 : zbox [(6, 2147483648, 2147483668)] (fun vs => zFrun (zpost (zAlq al_X9_year_0)) 1000 t_X9_year fm_X9_year_0 bf_X9_year_0 (1, vs)) = true := by decide +kernel
set_option maxRecDepth 100000 in
theorem x_X9_year_0 (d : Nat) (hG : zGood gh) : zS l G gh (d + 10) (zpost (zAlq al_X9_year_0)) n_X9_year (zn 0 p_X9_year 0) (zwc (0, [.inr (.ref 292), .inl 9223372043297226757, .inl 9223372043297226757, .inl 9223372043297226800, .inl 9223372047592194068], zP q_X9_year_0) 0) := zentry (tt_X9_year d hG) fm_X9_year_0 bf_X9_year_0 1000 (by decide +kernel) rfl ⟨Nat.zero_lt_succ _, trivial⟩ (fun f hf => match f, hf with
  | 0, _ => fun vs hv => (zbox_t r_X9_year_0_0) vs hv
  | 1, _ => fun vs hv => (zbox_t r_X9_year_0_1) vs hv
  | f + 2, h => absurd (show f + 2 < 2 from h) (Nat.not_lt.mpr (Nat.le_add_left 2 f)))
noncomputable def gs_X9_year_0 : zMt := zgq true zUN 7 [.inr (.ref 292), .inl 9223372043297226757, .inl 9223372043297226757, .inl 9223372043297226800, .inl 9223372047592194068] q_X9_year_0 al_X9_year_0
set_option maxRecDepth 100000 in
theorem cs_X9_year_0 (d : Nat) (hG : zGood gh) : zC l G gh (d + 10) n_X9_year gs_X9_year_0 := zgq_ok zGood_ok (pcs := p_X9_year) (by decide) rfl rfl (fun a ha => by simp only [al_X9_year_0, List.mem_cons, List.not_mem_nil, or_false] at ha; rcases ha with rfl <;> decide +kernel) (fun gh hG => x_X9_year_0 d hG) (by decide +kernel) hG
def q_X9_year_1 : List (Nat × Nat) := [(292, zk102), (301, zk107), (304, zk107)]
noncomputable def al_X9_year_1 : zAq := [(some (.inl 2147483647), [(292, zk102), (301, zk107), (304, zk107)])]
noncomputable def fm_X9_year_1 : List zFm := [(0, [], (fun vs => [.inr (.ref 292), .inl 9223372043297226757, .inl 9223372043297226757, .inl 9223372043297226800, .inl 6442450944]), (fun vs => zP q_X9_year_1), (fun vs => Nat.sub (Nat.add 0 0) 0))]
def bf_X9_year_1 : List Nat := []
theorem r_X9_year_1_0 : zbox [] (fun vs => zFrun (zpost (zAlq al_X9_year_1)) 1000 t_X9_year fm_X9_year_1 bf_X9_year_1 (0, vs)) = true := by decide +kernel
set_option maxRecDepth 100000 in
theorem x_X9_year_1 (d : Nat) (hG : zGood gh) : zS l G gh (d + 10) (zpost (zAlq al_X9_year_1)) n_X9_year (zn 0 p_X9_year 0) (zwc (0, [.inr (.ref 292), .inl 9223372043297226757, .inl 9223372043297226757, .inl 9223372043297226800, .inl 6442450944], zP q_X9_year_1) 0) := zentry (tt_X9_year d hG) fm_X9_year_1 bf_X9_year_1 1000 (by decide +kernel) rfl ⟨Nat.zero_lt_succ _, trivial⟩ (fun f hf => match f, hf with
  | 0, _ => fun vs hv => (zbox_t r_X9_year_1_0) vs hv
  | f + 1, h => absurd (show f + 1 < 1 from h) (Nat.not_lt.mpr (Nat.le_add_left 1 f)))
noncomputable def gs_X9_year_1 : zMt := zgq true zUN 7 [.inr (.ref 292), .inl 9223372043297226757, .inl 9223372043297226757, .inl 9223372043297226800, .inl 6442450944] q_X9_year_1 al_X9_year_1
set_option maxRecDepth 100000 in
theorem cs_X9_year_1 (d : Nat) (hG : zGood gh) : zC l G gh (d + 10) n_X9_year gs_X9_year_1 := zgq_ok zGood_ok (pcs := p_X9_year) (by decide) rfl rfl (fun a ha => by simp only [al_X9_year_1, List.mem_cons, List.not_mem_nil, or_false] at ha; rcases ha with rfl <;> decide +kernel) (fun gh hG => x_X9_year_1 d hG) (by decide +kernel) hG
def q_X9_year_2 : List (Nat × Nat) := [(292, zk102), (301, zk107), (304, zk107)]
noncomputable def al_X9_year_2 : zAq := [(some (.inl 2147483647), [(292, zk102), (301, zk107), (304, zk107)])]
noncomputable def fm_X9_year_2 : List zFm := [(0, [], (fun vs => [.inr (.ref 292), .inl 9223372043297226757, .inl 9223372043297226757, .inl 9223372043297226800, .inl 9223372135639023615]), (fun vs => zP q_X9_year_2), (fun vs => Nat.sub (Nat.add 0 0) 0))]
def bf_X9_year_2 : List Nat := []
theorem r_X9_year_2_0 : zbox [] (fun vs => zFrun (zpost (zAlq al_X9_year_2)) 1000 t_X9_year fm_X9_year_2 bf_X9_year_2 (0, vs)) = true := by decide +kernel
set_option maxRecDepth 100000 in
theorem x_X9_year_2 (d : Nat) (hG : zGood gh) : zS l G gh (d + 10) (zpost (zAlq al_X9_year_2)) n_X9_year (zn 0 p_X9_year 0) (zwc (0, [.inr (.ref 292), .inl 9223372043297226757, .inl 9223372043297226757, .inl 9223372043297226800, .inl 9223372135639023615], zP q_X9_year_2) 0) := zentry (tt_X9_year d hG) fm_X9_year_2 bf_X9_year_2 1000 (by decide +kernel) rfl ⟨Nat.zero_lt_succ _, trivial⟩ (fun f hf => match f, hf with
  | 0, _ => fun vs hv => (zbox_t r_X9_year_2_0) vs hv
  | f + 1, h => absurd (show f + 1 < 1 from h) (Nat.not_lt.mpr (Nat.le_add_left 1 f)))
noncomputable def gs_X9_year_2 : zMt := zgq true zUN 7 [.inr (.ref 292), .inl 9223372043297226757, .inl 9223372043297226757, .inl 9223372043297226800, .inl 9223372135639023615] q_X9_year_2 al_X9_year_2
set_option maxRecDepth 100000 in
theorem cs_X9_year_2 (d : Nat) (hG : zGood gh) : zC l G gh (d + 10) n_X9_year gs_X9_year_2 := zgq_ok zGood_ok (pcs := p_X9_year) (by decide) rfl rfl (fun a ha => by simp only [al_X9_year_2, List.mem_cons, List.not_mem_nil, or_false] at ha; rcases ha with rfl <;> decide +kernel) (fun gh hG => x_X9_year_2 d hG) (by decide +kernel) hG
def q_X9_year_3 : List (Nat × Nat) := [(292, zk102), (301, zk107), (304, zk107)]
noncomputable def al_X9_year_3 : zAq := [(some (.inl 2147483647), [(292, zk102), (301, zk107), (304, zk107)])]
noncomputable def fm_X9_year_3 : List zFm := [(0, [], (fun vs => [.inr (.ref 292), .inl 9223372043297226757, .inl 9223372043297226757, .inl 6442450943, .inl 8589934591]), (fun vs => zP q_X9_year_3), (fun vs => Nat.sub (Nat.add 0 0) 0))]
def bf_X9_year_3 : List Nat := []
theorem r_X9_year_3_0 : zbox [] (fun vs => zFrun (zpost (zAlq al_X9_year_3)) 1000 t_X9_year fm_X9_year_3 bf_X9_year_3 (0, vs)) = true := by decide +kernel
set_option maxRecDepth 100000 in
theorem x_X9_year_3 (d : Nat) (hG : zGood gh) : zS l G gh (d + 10) (zpost (zAlq al_X9_year_3)) n_X9_year (zn 0 p_X9_year 0) (zwc (0, [.inr (.ref 292), .inl 9223372043297226757, .inl 9223372043297226757, .inl 6442450943, .inl 8589934591], zP q_X9_year_3) 0) := zentry (tt_X9_year d hG) fm_X9_year_3 bf_X9_year_3 1000 (by decide +kernel) rfl ⟨Nat.zero_lt_succ _, trivial⟩ (fun f hf => match f, hf with
  | 0, _ => fun vs hv => (zbox_t r_X9_year_3_0) vs hv
  | f + 1, h => absurd (show f + 1 < 1 from h) (Nat.not_lt.mpr (Nat.le_add_left 1 f)))
noncomputable def gs_X9_year_3 : zMt := zgq true zUN 7 [.inr (.ref 292), .inl 9223372043297226757, .inl 9223372043297226757, .inl 6442450943, .inl 8589934591] q_X9_year_3 al_X9_year_3
set_option maxRecDepth 100000 in
theorem cs_X9_year_3 (d : Nat) (hG : zGood gh) : zC l G gh (d + 10) n_X9_year gs_X9_year_3 := zgq_ok zGood_ok (pcs := p_X9_year) (by decide) rfl rfl (fun a ha => by simp only [al_X9_year_3, List.mem_cons, List.not_mem_nil, or_false] at ha; rcases ha with rfl <;> decide +kernel) (fun gh hG => x_X9_year_3 d hG) (by decide +kernel) hG
def q_X9_year_4 : List (Nat × Nat) := [(292, zk102), (301, zk107), (304, zk107)]
noncomputable def al_X9_year_4 : zAq := [(some (.inl 2147483647), [(292, zk102), (301, zk107), (304, zk107)])]
noncomputable def fm_X9_year_4 : List zFm := [(0, [], (fun vs => [.inr (.ref 292), .inl 9223372043297226757, .inl 9223372043297226757, .inl 9223372255898107903, .inl 8589934591]), (fun vs => zP q_X9_year_4), (fun vs => Nat.sub (Nat.add 0 0) 0))]
def bf_X9_year_4 : List Nat := []
theorem r_X9_year_4_0 : zbox [] (fun vs => zFrun (zpost (zAlq al_X9_year_4)) 1000 t_X9_year fm_X9_year_4 bf_X9_year_4 (0, vs)) = true := by decide +kernel
set_option maxRecDepth 100000 in
theorem x_X9_year_4 (d : Nat) (hG : zGood gh) : zS l G gh (d + 10) (zpost (zAlq al_X9_year_4)) n_X9_year (zn 0 p_X9_year 0) (zwc (0, [.inr (.ref 292), .inl 9223372043297226757, .inl 9223372043297226757, .inl 9223372255898107903, .inl 8589934591], zP q_X9_year_4) 0) := zentry (tt_X9_year d hG) fm_X9_year_4 bf_X9_year_4 1000 (by decide +kernel) rfl ⟨Nat.zero_lt_succ _, trivial⟩ (fun f hf => match f, hf with
  | 0, _ => fun vs hv => (zbox_t r_X9_year_4_0) vs hv
  | f + 1, h => absurd (show f + 1 < 1 from h) (Nat.not_lt.mpr (Nat.le_add_left 1 f)))
noncomputable def gs_X9_year_4 : zMt := zgq true zUN 7 [.inr (.ref 292), .inl 9223372043297226757, .inl 9223372043297226757, .inl 9223372255898107903, .inl 8589934591] q_X9_year_4 al_X9_year_4
set_option maxRecDepth 100000 in
theorem cs_X9_year_4 (d : Nat) (hG : zGood gh) : zC l G gh (d + 10) n_X9_year gs_X9_year_4 := zgq_ok zGood_ok (pcs := p_X9_year) (by decide) rfl rfl (fun a ha => by simp only [al_X9_year_4, List.mem_cons, List.not_mem_nil, or_false] at ha; rcases ha with rfl <;> decide +kernel) (fun gh hG => x_X9_year_4 d hG) (by decide +kernel) hG
def q_X9_year_5 : List (Nat × Nat) := [(292, zk102), (301, zk107), (304, zk107)]
noncomputable def al_X9_year_5 : zAq := [(some (.inl 2147483647), [(292, zk102), (301, zk107), (304, zk107)])]
noncomputable def fm_X9_year_5 : List zFm := [(0, [], (fun vs => [.inr (.ref 292), .inl 9223372043297226757, .inl 6442450943, .inl 8589934591, .inl 8589934591]), (fun vs => zP q_X9_year_5), (fun vs => Nat.sub (Nat.add 0 0) 0))]
def bf_X9_year_5 : List Nat := []
theorem r_X9_year_5_0 : zbox [] (fun vs => zFrun (zpost (zAlq al_X9_year_5)) 1000 t_X9_year fm_X9_year_5 bf_X9_year_5 (0, vs)) = true := by decide +kernel
set_option maxRecDepth 100000 in
theorem x_X9_year_5 (d : Nat) (hG : zGood gh) : zS l G gh (d + 10) (zpost (zAlq al_X9_year_5)) n_X9_year (zn 0 p_X9_year 0) (zwc (0, [.inr (.ref 292), .inl 9223372043297226757, .inl 6442450943, .inl 8589934591, .inl 8589934591], zP q_X9_year_5) 0) := zentry (tt_X9_year d hG) fm_X9_year_5 bf_X9_year_5 1000 (by decide +kernel) rfl ⟨Nat.zero_lt_succ _, trivial⟩ (fun f hf => match f, hf with
  | 0, _ => fun vs hv => (zbox_t r_X9_year_5_0) vs hv
  | f + 1, h => absurd (show f + 1 < 1 from h) (Nat.not_lt.mpr (Nat.le_add_left 1 f)))
noncomputable def gs_X9_year_5 : zMt := zgq true zUN 7 [.inr (.ref 292), .inl 9223372043297226757, .inl 6442450943, .inl 8589934591, .inl 8589934591] q_X9_year_5 al_X9_year_5
set_option maxRecDepth 100000 in
theorem cs_X9_year_5 (d : Nat) (hG : zGood gh) : zC l G gh (d + 10) n_X9_year gs_X9_year_5 := zgq_ok zGood_ok (pcs := p_X9_year) (by decide) rfl rfl (fun a ha => by simp only [al_X9_year_5, List.mem_cons, List.not_mem_nil, or_false] at ha; rcases ha with rfl <;> decide +kernel) (fun gh hG => x_X9_year_5 d hG) (by decide +kernel) hG
def q_X9_year_6 : List (Nat × Nat) := [(292, zk102), (301, zk107), (304, zk107)]
noncomputable def al_X9_year_6 : zAq := [(some (.inl 2147483647), [(292, zk102), (301, zk107), (304, zk107)])]
noncomputable def fm_X9_year_6 : List zFm := [(0, [], (fun vs => [.inr (.ref 292), .inl 9223372043297226757, .inl 9223372071214514175, .inl 8589934591, .inl 8589934591]), (fun vs => zP q_X9_year_6), (fun vs => Nat.sub (Nat.add 0 0) 0))]
def bf_X9_year_6 : List Nat := []
theorem r_X9_year_6_0 : zbox [] (fun vs => zFrun (zpost (zAlq al_X9_year_6)) 1000 t_X9_year fm_X9_year_6 bf_X9_year_6 (0, vs)) = true := by decide +kernel
set_option maxRecDepth 100000 in
theorem x_X9_year_6 (d : Nat) (hG : zGood gh) : zS l G gh (d + 10) (zpost (zAlq al_X9_year_6)) n_X9_year (zn 0 p_X9_year 0) (zwc (0, [.inr (.ref 292), .inl 9223372043297226757, .inl 9223372071214514175, .inl 8589934591, .inl 8589934591], zP q_X9_year_6) 0) := zentry (tt_X9_year d hG) fm_X9_year_6 bf_X9_year_6 1000 (by decide +kernel) rfl ⟨Nat.zero_lt_succ _, trivial⟩ (fun f hf => match f, hf with
  | 0, _ => fun vs hv => (zbox_t r_X9_year_6_0) vs hv
  | f + 1, h => absurd (show f + 1 < 1 from h) (Nat.not_lt.mpr (Nat.le_add_left 1 f)))
noncomputable def gs_X9_year_6 : zMt := zgq true zUN 7 [.inr (.ref 292), .inl 9223372043297226757, .inl 9223372071214514175, .inl 8589934591, .inl 8589934591] q_X9_year_6 al_X9_year_6
set_option maxRecDepth 100000 in
theorem cs_X9_year_6 (d : Nat) (hG : zGood gh) : zC l G gh (d + 10) n_X9_year gs_X9_year_6 := zgq_ok zGood_ok (pcs := p_X9_year) (by decide) rfl rfl (fun a ha => by simp only [al_X9_year_6, List.mem_cons, List.not_mem_nil, or_false] at ha; rcases ha with rfl <;> decide +kernel) (fun gh hG => x_X9_year_6 d hG) (by decide +kernel) hG
def q_X9_year_7 : List (Nat × Nat) := [(292, zk102), (304, zk107)]
noncomputable def al_X9_year_7 : zAq := [(some (.inl 2147483647), [(292, zk102), (304, zk107)])]
noncomputable def fm_X9_year_7 : List zFm := [(0, [], (fun vs => [.inr (.ref 292), .inl 6442450943, .inl 8589934591, .inl 8589934591, .inl 8589934591]), (fun vs => zP q_X9_year_7), (fun vs => Nat.sub (Nat.add 0 0) 0))]
def bf_X9_year_7 : List Nat := []
theorem r_X9_year_7_0 : zbox [] (fun vs => zFrun (zpost (zAlq al_X9_year_7)) 1000 t_X9_year fm_X9_year_7 bf_X9_year_7 (0, vs)) = true := by decide +kernel
set_option maxRecDepth 100000 in
theorem x_X9_year_7 (d : Nat) (hG : zGood gh) : zS l G gh (d + 10) (zpost (zAlq al_X9_year_7)) n_X9_year (zn 0 p_X9_year 0) (zwc (0, [.inr (.ref 292), .inl 6442450943, .inl 8589934591, .inl 8589934591, .inl 8589934591], zP q_X9_year_7) 0) := zentry (tt_X9_year d hG) fm_X9_year_7 bf_X9_year_7 1000 (by decide +kernel) rfl ⟨Nat.zero_lt_succ _, trivial⟩ (fun f hf => match f, hf with
  | 0, _ => fun vs hv => (zbox_t r_X9_year_7_0) vs hv
  | f + 1, h => absurd (show f + 1 < 1 from h) (Nat.not_lt.mpr (Nat.le_add_left 1 f)))
noncomputable def gs_X9_year_7 : zMt := zgq true zUN 7 [.inr (.ref 292), .inl 6442450943, .inl 8589934591, .inl 8589934591, .inl 8589934591] q_X9_year_7 al_X9_year_7
set_option maxRecDepth 100000 in
theorem cs_X9_year_7 (d : Nat) (hG : zGood gh) : zC l G gh (d + 10) n_X9_year gs_X9_year_7 := zgq_ok zGood_ok (pcs := p_X9_year) (by decide) rfl rfl (fun a ha => by simp only [al_X9_year_7, List.mem_cons, List.not_mem_nil, or_false] at ha; rcases ha with rfl <;> decide +kernel) (fun gh hG => x_X9_year_7 d hG) (by decide +kernel) hG
def q_X9_year_8 : List (Nat × Nat) := [(292, zk102), (304, zk107)]
noncomputable def al_X9_year_8 : zAq := [(some (.inl 2147483647), [(292, zk102), (304, zk107)])]
noncomputable def fm_X9_year_8 : List zFm := [(0, [], (fun vs => [.inr (.ref 292), .inl 9223372071214514175, .inl 8589934591, .inl 8589934591, .inl 8589934591]), (fun vs => zP q_X9_year_8), (fun vs => Nat.sub (Nat.add 0 0) 0))]
def bf_X9_year_8 : List Nat := []
theorem r_X9_year_8_0 : zbox [] (fun vs => zFrun (zpost (zAlq al_X9_year_8)) 1000 t_X9_year fm_X9_year_8 bf_X9_year_8 (0, vs)) = true := by decide +kernel
set_option maxRecDepth 100000 in
theorem x_X9_year_8 (d : Nat) (hG : zGood gh) : zS l G gh (d + 10) (zpost (zAlq al_X9_year_8)) n_X9_year (zn 0 p_X9_year 0) (zwc (0, [.inr (.ref 292), .inl 9223372071214514175, .inl 8589934591, .inl 8589934591, .inl 8589934591], zP q_X9_year_8) 0) := zentry (tt_X9_year d hG) fm_X9_year_8 bf_X9_year_8 1000 (by decide +kernel) rfl ⟨Nat.zero_lt_succ _, trivial⟩ (fun f hf => match f, hf with
  | 0, _ => fun vs hv => (zbox_t r_X9_year_8_0) vs hv
  | f + 1, h => absurd (show f + 1 < 1 from h) (Nat.not_lt.mpr (Nat.le_add_left 1 f)))
noncomputable def gs_X9_year_8 : zMt := zgq true zUN 7 [.inr (.ref 292), .inl 9223372071214514175, .inl 8589934591, .inl 8589934591, .inl 8589934591] q_X9_year_8 al_X9_year_8
set_option maxRecDepth 100000 in
theorem cs_X9_year_8 (d : Nat) (hG : zGood gh) : zC l G gh (d + 10) n_X9_year gs_X9_year_8 := zgq_ok zGood_ok (pcs := p_X9_year) (by decide) rfl rfl (fun a ha => by simp only [al_X9_year_8, List.mem_cons, List.not_mem_nil, or_false] at ha; rcases ha with rfl <;> decide +kernel) (fun gh hG => x_X9_year_8 d hG) (by decide +kernel) hG
noncomputable def gs_X9_year : zMt := (zor gs_X9_year_0 (zor gs_X9_year_1 (zor gs_X9_year_2 (zor gs_X9_year_3 (zor gs_X9_year_4 (zor gs_X9_year_5 (zor gs_X9_year_6 (zor gs_X9_year_7 gs_X9_year_8))))))))
theorem cs_X9_year (d : Nat) (hG : zGood gh) : zC l G gh (d + 10) n_X9_year gs_X9_year := (zor_ok (cs_X9_year_0 d hG) (zor_ok (cs_X9_year_1 d hG) (zor_ok (cs_X9_year_2 d hG) (zor_ok (cs_X9_year_3 d hG) (zor_ok (cs_X9_year_4 d hG) (zor_ok (cs_X9_year_5 d hG) (zor_ok (cs_X9_year_6 d hG) (zor_ok (cs_X9_year_7 d hG) (cs_X9_year_8 d hG)))))))))
end
