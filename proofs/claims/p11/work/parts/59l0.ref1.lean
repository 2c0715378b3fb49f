section
variable {l : Launch} {G : qG} {gh : zGh}
def p_X9_movedBy : List Nat := [0]
noncomputable def b_X9_movedBy_0 : zBl := fun jp K => oAld 0 <| oIld 1 <| oIld 2 <| oIld 3 <| oIld 4 <| oCv 9 4 gs_X9_looksAt <| oAld 0 <| oInt 2147483650 <| oInt 2147483648 <| oCv 9 2 gs_X9_lawTells <| oInt 2147483639 <| oInt 2147483657 <| oCs 3 f_X9_held <| oIret K
theorem s_X9_movedBy_0 (d : Nat) (hG : zGood gh) : zPb l G gh (d + 5) n_X9_movedBy p_X9_movedBy 0 b_X9_movedBy_0 := fun K jp hj =>
    z_aload_n (n := 0) (i := 0) (zd (i := .aload_n 0) (n := 1) (by decide +kernel)) rfl <|
    z_iload_n (n := 1) (i := 1) (zd (i := .iload_n 1) (n := 1) (by decide +kernel)) rfl <|
    z_iload_n (n := 2) (i := 2) (zd (i := .iload_n 2) (n := 1) (by decide +kernel)) rfl <|
    z_iload_n (n := 3) (i := 3) (zd (i := .iload_n 3) (n := 1) (by decide +kernel)) rfl <|
    z_iload (i := 4) (zd (i := .iload 4) (n := 2) (by decide +kernel)) <|
    z_callV (idx := 333) (ci := 9) (N := n_X9_looksAt) (zd (i := .invokevirtual 333) (n := 3) (by decide +kernel)) to_X9_looksAt g1457 g1459 g70 (by decide +kernel) rfl rfl rfl (cs_X9_looksAt (l := l) (G := G) (gh := gh) (d) hG) <|
    z_aload_n (n := 0) (i := 0) (zd (i := .aload_n 0) (n := 1) (by decide +kernel)) rfl <|
    z_iconst (n := 2) (zd (i := .iconst (2)) (n := 1) (by decide +kernel)) (by decide +kernel) <|
    z_iconst (n := 0) (zd (i := .iconst (0)) (n := 1) (by decide +kernel)) (by decide +kernel) <|
    z_callV (idx := 321) (ci := 9) (N := n_X9_lawTells) (zd (i := .invokevirtual 321) (n := 3) (by decide +kernel)) to_X9_lawTells g1469 g1471 g73 (by decide +kernel) rfl rfl rfl (cs_X9_lawTells (l := l) (G := G) (gh := gh) (d + 2) hG) <|
    z_bipush (n := -9) (zd (i := .bipush (-9)) (n := 2) (by decide +kernel)) (by decide +kernel) <|
    z_bipush (n := 9) (zd (i := .bipush (9)) (n := 2) (by decide +kernel)) (by decide +kernel) <|
    z_callS (idx := 324) (N := n_X9_held) (zd (i := .invokestatic 324) (n := 3) (by decide +kernel)) to_X9_held g1477 g1478 rfl rfl (c_X9_held (l := l) (G := G) (gh := gh) (d + 3)) <|
    z_iret (zd (i := .ireturn) (n := 1) (by decide +kernel)) rfl
noncomputable def t_X9_movedBy : List zBl := [b_X9_movedBy_0]
theorem tt_X9_movedBy (d : Nat) (hG : zGood gh) : zT (zPb l G gh (d + 5) n_X9_movedBy p_X9_movedBy) t_X9_movedBy p_X9_movedBy := ⟨s_X9_movedBy_0 d hG, trivial⟩
def q_X9_movedBy_0 : List (Nat × Nat) := [(292, zk102), (321, zk3), (322, zk116)]
noncomputable def al_X9_movedBy_0 : zAq := [(some (.inl 9223372004642521097), [(292, zk105), (321, zk4), (322, zk117)])]
noncomputable def fm_X9_movedBy_0 : List zFm := [(0, [], (fun vs => [.inr (.ref 292), .inl 8589934591, .inl 8589934591, .inl 8589934591, .inl 8589934591]), (fun vs => zP q_X9_movedBy_0), (fun vs => Nat.sub (Nat.add 0 0) 0))]
def bf_X9_movedBy_0 : List Nat := []
theorem r_X9_movedBy_0_0 : zbox [] (fun vs => zFrun (zpost (zAlq al_X9_movedBy_0)) 1000 t_X9_movedBy fm_X9_movedBy_0 bf_X9_movedBy_0 (0, vs)) = true := by decide +kernel
set_option maxRecDepth 100000 in
theorem x_X9_movedBy_0 (d : Nat) (hG : zGood gh) : zS l G gh (d + 5) (zpost (zAlq al_X9_movedBy_0)) n_X9_movedBy (zn 0 p_X9_movedBy 0) (zwc (0, [.inr (.ref 292), .inl 8589934591, .inl 8589934591, .inl 8589934591, .inl 8589934591], zP q_X9_movedBy_0) 0) := zentry (tt_X9_movedBy d hG) fm_X9_movedBy_0 bf_X9_movedBy_0 1000 (by decide +kernel) rfl ⟨Nat.zero_lt_succ _, trivial⟩ (fun f hf => match f, hf with
  | 0, _ => fun vs hv => (zbox_t r_X9_movedBy_0_0) vs hv
  | f + 1, h => absurd (show f + 1 < 1 from h) (Nat.not_lt.mpr (Nat.le_add_left 1 f)))
noncomputable def gs_X9_movedBy_0 : zMt := zgq true zUN 5 [.inr (.ref 292), .inl 8589934591, .inl 8589934591, .inl 8589934591, .inl 8589934591] q_X9_movedBy_0 al_X9_movedBy_0
set_option maxRecDepth 100000 in
theorem cs_X9_movedBy_0 (d : Nat) (hG : zGood gh) : zC l G gh (d + 5) n_X9_movedBy gs_X9_movedBy_0 := zgq_ok zGood_ok (pcs := p_X9_movedBy) (by decide) rfl rfl (fun a ha => by simp only [al_X9_movedBy_0, List.mem_cons, List.not_mem_nil, or_false] at ha; rcases ha with rfl <;> decide +kernel) (fun gh hG => x_X9_movedBy_0 d hG) (by decide +kernel) hG
noncomputable def gs_X9_movedBy : zMt := gs_X9_movedBy_0
theorem cs_X9_movedBy (d : Nat) (hG : zGood gh) : zC l G gh (d + 5) n_X9_movedBy gs_X9_movedBy := (cs_X9_movedBy_0 d hG)
def p_X9_rentOf : List Nat := [0, 57]
noncomputable def b_X9_rentOf_0 : zBl := fun jp K => oAld 0 <| oIld 1 <| oAld 0 <| oGetR 9 23 <| oInt 2147483654 <| oAld 0 <| oGetI 9 18 <| oB2 zimul <| oIld 2 <| oB2 zadd <| oXald 10 <| oAld 0 <| oGetR 9 24 <| oInt 2147483654 <| oAld 0 <| oGetI 9 18 <| oB2 zimul <| oIld 2 <| oB2 zadd <| oXald 10 <| oIld 4 <| oCv 9 4 gs_X9_looksAt <| oAld 0 <| oGetR 9 45 <| oInt 2147483654 <| oIld 3 <| oXast 10 zid <| oAld 0 <| oInt 2147483651 <| oAld 0 <| oGetR 9 45 <| oInt 2147483652 <| oXald 10 <| oCv 9 2 gs_X9_lawTells <| oInt 2147483648 <| oInt 2147483747 <| jp 1
theorem s_X9_rentOf_0 (d : Nat) (hG : zGood gh) : zPb l G gh (d + 5) n_X9_rentOf p_X9_rentOf 0 b_X9_rentOf_0 := fun K jp hj =>
    z_aload_n (n := 0) (i := 0) (zd (i := .aload_n 0) (n := 1) (by decide +kernel)) rfl <|
    z_iload_n (n := 1) (i := 1) (zd (i := .iload_n 1) (n := 1) (by decide +kernel)) rfl <|
    z_aload_n (n := 0) (i := 0) (zd (i := .aload_n 0) (n := 1) (by decide +kernel)) rfl <|
    z_getR (ci := 9) (j := 23) (idx := 46) (zd (i := .getfield 46) (n := 3) (by decide +kernel)) (by decide +kernel) (by decide +kernel) rfl g1151 <|
    z_bipush (n := 6) (zd (i := .bipush (6)) (n := 2) (by decide +kernel)) (by decide +kernel) <|
    z_aload_n (n := 0) (i := 0) (zd (i := .aload_n 0) (n := 1) (by decide +kernel)) rfl <|
    z_getI (ci := 9) (j := 18) (idx := 230) (zd (i := .getfield 230) (n := 3) (by decide +kernel)) (by decide +kernel) (by decide +kernel) rfl g1146 <|
    z_imul (zd (i := .imul) (n := 1) (by decide +kernel)) <|
    z_iload_n (n := 2) (i := 2) (zd (i := .iload_n 2) (n := 1) (by decide +kernel)) rfl <|
    z_iadd (zd (i := .iadd) (n := 1) (by decide +kernel)) <|
    z_iald (zd (i := .iaload) (n := 1) (by decide +kernel)) <|
    z_aload_n (n := 0) (i := 0) (zd (i := .aload_n 0) (n := 1) (by decide +kernel)) rfl <|
    z_getR (ci := 9) (j := 24) (idx := 49) (zd (i := .getfield 49) (n := 3) (by decide +kernel)) (by decide +kernel) (by decide +kernel) rfl g1152 <|
    z_bipush (n := 6) (zd (i := .bipush (6)) (n := 2) (by decide +kernel)) (by decide +kernel) <|
    z_aload_n (n := 0) (i := 0) (zd (i := .aload_n 0) (n := 1) (by decide +kernel)) rfl <|
    z_getI (ci := 9) (j := 18) (idx := 230) (zd (i := .getfield 230) (n := 3) (by decide +kernel)) (by decide +kernel) (by decide +kernel) rfl g1146 <|
    z_imul (zd (i := .imul) (n := 1) (by decide +kernel)) <|
    z_iload_n (n := 2) (i := 2) (zd (i := .iload_n 2) (n := 1) (by decide +kernel)) rfl <|
    z_iadd (zd (i := .iadd) (n := 1) (by decide +kernel)) <|
    z_iald (zd (i := .iaload) (n := 1) (by decide +kernel)) <|
    z_iload (i := 4) (zd (i := .iload 4) (n := 2) (by decide +kernel)) <|
    z_callV (idx := 333) (ci := 9) (N := n_X9_looksAt) (zd (i := .invokevirtual 333) (n := 3) (by decide +kernel)) to_X9_looksAt g1457 g1459 g70 (by decide +kernel) rfl rfl rfl (cs_X9_looksAt (l := l) (G := G) (gh := gh) (d) hG) <|
    z_aload_n (n := 0) (i := 0) (zd (i := .aload_n 0) (n := 1) (by decide +kernel)) rfl <|
    z_getR (ci := 9) (j := 45) (idx := 104) (zd (i := .getfield 104) (n := 3) (by decide +kernel)) (by decide +kernel) (by decide +kernel) rfl g1173 <|
    z_bipush (n := 6) (zd (i := .bipush (6)) (n := 2) (by decide +kernel)) (by decide +kernel) <|
    z_iload_n (n := 3) (i := 3) (zd (i := .iload_n 3) (n := 1) (by decide +kernel)) rfl <|
    z_iast (zd (i := .iastore) (n := 1) (by decide +kernel)) <|
    z_aload_n (n := 0) (i := 0) (zd (i := .aload_n 0) (n := 1) (by decide +kernel)) rfl <|
    z_iconst (n := 3) (zd (i := .iconst (3)) (n := 1) (by decide +kernel)) (by decide +kernel) <|
    z_aload_n (n := 0) (i := 0) (zd (i := .aload_n 0) (n := 1) (by decide +kernel)) rfl <|
    z_getR (ci := 9) (j := 45) (idx := 104) (zd (i := .getfield 104) (n := 3) (by decide +kernel)) (by decide +kernel) (by decide +kernel) rfl g1173 <|
    z_iconst (n := 4) (zd (i := .iconst (4)) (n := 1) (by decide +kernel)) (by decide +kernel) <|
    z_iald (zd (i := .iaload) (n := 1) (by decide +kernel)) <|
    z_callV (idx := 321) (ci := 9) (N := n_X9_lawTells) (zd (i := .invokevirtual 321) (n := 3) (by decide +kernel)) to_X9_lawTells g1469 g1471 g73 (by decide +kernel) rfl rfl rfl (cs_X9_lawTells (l := l) (G := G) (gh := gh) (d + 2) hG) <|
    z_iconst (n := 0) (zd (i := .iconst (0)) (n := 1) (by decide +kernel)) (by decide +kernel) <|
    z_bipush (n := 99) (zd (i := .bipush (99)) (n := 2) (by decide +kernel)) (by decide +kernel) <|
    (zj (hj 1) (by decide +kernel))
noncomputable def b_X9_rentOf_1 : zBl := fun jp K => oCs 3 f_X9_held <| oIret K
theorem s_X9_rentOf_1 (d : Nat) (hG : zGood gh) : zPb l G gh (d + 5) n_X9_rentOf p_X9_rentOf 57 b_X9_rentOf_1 := fun K jp hj =>
    z_callS (idx := 324) (N := n_X9_held) (zd (i := .invokestatic 324) (n := 3) (by decide +kernel)) to_X9_held g1477 g1478 rfl rfl (c_X9_held (l := l) (G := G) (gh := gh) (d + 3)) <|
    z_iret (zd (i := .ireturn) (n := 1) (by decide +kernel)) rfl
noncomputable def t_X9_rentOf : List zBl := [b_X9_rentOf_0, b_X9_rentOf_1]
theorem tt_X9_rentOf (d : Nat) (hG : zGood gh) : zT (zPb l G gh (d + 5) n_X9_rentOf p_X9_rentOf) t_X9_rentOf p_X9_rentOf := ⟨s_X9_rentOf_0 d hG, s_X9_rentOf_1 d hG, trivial⟩
def q_X9_rentOf_0 : List (Nat × Nat) := [(292, zk102), (302, zk111), (303, zk111), (321, zk3), (322, zk116)]
noncomputable def al_X9_rentOf_0 : zAq := [(some (.inl 9223372043297226851), [(292, zk105), (302, zk111), (303, zk111), (321, zk4), (322, zk117)])]
noncomputable def fm_X9_rentOf_0 : List zFm := [(0, [], (fun vs => [.inr (.ref 292), .inl 8589934591, .inl 9223372043297226757, .inl 8589934591, .inl 8589934591]), (fun vs => zP q_X9_rentOf_0), (fun vs => Nat.sub (Nat.add 0 0) 0))]
def bf_X9_rentOf_0 : List Nat := []
theorem r_X9_rentOf_0_0 : zbox [] (fun vs => zFrun (zpost (zAlq al_X9_rentOf_0)) 1000 t_X9_rentOf fm_X9_rentOf_0 bf_X9_rentOf_0 (0, vs)) = true := by decide +kernel
set_option maxRecDepth 100000 in
theorem x_X9_rentOf_0 (d : Nat) (hG : zGood gh) : zS l G gh (d + 5) (zpost (zAlq al_X9_rentOf_0)) n_X9_rentOf (zn 0 p_X9_rentOf 0) (zwc (0, [.inr (.ref 292), .inl 8589934591, .inl 9223372043297226757, .inl 8589934591, .inl 8589934591], zP q_X9_rentOf_0) 0) := zentry (tt_X9_rentOf d hG) fm_X9_rentOf_0 bf_X9_rentOf_0 1000 (by decide +kernel) rfl ⟨Nat.zero_lt_succ _, trivial⟩ (fun f hf => match f, hf with
  | 0, _ => fun vs hv => (zbox_t r_X9_rentOf_0_0) vs hv
  | f + 1, h => absurd (show f + 1 < 1 from h) (Nat.not_lt.mpr (Nat.le_add_left 1 f)))
noncomputable def gs_X9_rentOf_0 : zMt := zgq true zUN 5 [.inr (.ref 292), .inl 8589934591, .inl 9223372043297226757, .inl 8589934591, .inl 8589934591] q_X9_rentOf_0 al_X9_rentOf_0
set_option maxRecDepth 100000 in
theorem cs_X9_rentOf_0 (d : Nat) (hG : zGood gh) : zC l G gh (d + 5) n_X9_rentOf gs_X9_rentOf_0 := zgq_ok zGood_ok (pcs := p_X9_rentOf) (by decide) rfl rfl (fun a ha => by simp only [al_X9_rentOf_0, List.mem_cons, List.not_mem_nil, or_false] at ha; rcases ha with rfl <;> decide +kernel) (fun gh hG => x_X9_rentOf_0 d hG) (by decide +kernel) hG
noncomputable def gs_X9_rentOf : zMt := gs_X9_rentOf_0
theorem cs_X9_rentOf (d : Nat) (hG : zGood gh) : zC l G gh (d + 5) n_X9_rentOf gs_X9_rentOf := (cs_X9_rentOf_0 d hG)
def p_X9_grows : List Nat := [0]
noncomputable def b_X9_grows_0 : zBl := fun jp K => oIld 1 <| oIld 1 <| oAld 0 <| oIld 1 <| oIld 2 <| oCv 9 2 gs_X9_interestOf <| oB2 zimul <| oInt 2147483748 <| oB2z zidiv <| oB2 zadd <| oInt 2147483648 <| oInt 2147583647 <| oCs 3 f_X9_held <| oIret K
theorem s_X9_grows_0 (d : Nat) (hG : zGood gh) : zPb l G gh (d + 5) n_X9_grows p_X9_grows 0 b_X9_grows_0 := fun K jp hj =>
    z_iload_n (n := 1) (i := 1) (zd (i := .iload_n 1) (n := 1) (by decide +kernel)) rfl <|
    z_iload_n (n := 1) (i := 1) (zd (i := .iload_n 1) (n := 1) (by decide +kernel)) rfl <|
    z_aload_n (n := 0) (i := 0) (zd (i := .aload_n 0) (n := 1) (by decide +kernel)) rfl <|
    z_iload_n (n := 1) (i := 1) (zd (i := .iload_n 1) (n := 1) (by decide +kernel)) rfl <|
    z_iload_n (n := 2) (i := 2) (zd (i := .iload_n 2) (n := 1) (by decide +kernel)) rfl <|
    z_callV (idx := 348) (ci := 9) (N := n_X9_interestOf) (zd (i := .invokevirtual 348) (n := 3) (by decide +kernel)) to_X9_interestOf g1518 g1520 g80 (by decide +kernel) rfl rfl rfl (cs_X9_interestOf (l := l) (G := G) (gh := gh) (d) hG) <|
    z_imul (zd (i := .imul) (n := 1) (by decide +kernel)) <|
    z_bipush (n := 100) (zd (i := .bipush (100)) (n := 2) (by decide +kernel)) (by decide +kernel) <|
    z_idiv (zd (i := .idiv) (n := 1) (by decide +kernel)) <|
    z_iadd (zd (i := .iadd) (n := 1) (by decide +kernel)) <|
    z_iconst (n := 0) (zd (i := .iconst (0)) (n := 1) (by decide +kernel)) (by decide +kernel) <|
    z_ldcw (n := 351) (zd (i := .ldc_w 351) (n := 3) (by decide +kernel)) g1534 (by decide +kernel) <|
    z_callS (idx := 324) (N := n_X9_held) (zd (i := .invokestatic 324) (n := 3) (by decide +kernel)) to_X9_held g1477 g1478 rfl rfl (c_X9_held (l := l) (G := G) (gh := gh) (d + 3)) <|
    z_iret (zd (i := .ireturn) (n := 1) (by decide +kernel)) rfl
noncomputable def t_X9_grows : List zBl := [b_X9_grows_0]
theorem tt_X9_grows (d : Nat) (hG : zGood gh) : zT (zPb l G gh (d + 5) n_X9_grows p_X9_grows) t_X9_grows p_X9_grows := ⟨s_X9_grows_0 d hG, trivial⟩
def q_X9_grows_0 : List (Nat × Nat) := [(292, zk102), (321, zk3), (322, zk116)]
noncomputable def al_X9_grows_0 : zAq := [(some (.inl 9223372043297326751), [(292, zk105), (321, zk4), (322, zk117)])]
noncomputable def fm_X9_grows_0 : List zFm := [(0, [], (fun vs => [.inr (.ref 292), .inl 8589934591, .inl 8589934591]), (fun vs => zP q_X9_grows_0), (fun vs => Nat.sub (Nat.add 0 0) 0))]
def bf_X9_grows_0 : List Nat := []
theorem r_X9_grows_0_0 : zbox [] (fun vs => zFrun (zpost (zAlq al_X9_grows_0)) 1000 t_X9_grows fm_X9_grows_0 bf_X9_grows_0 (0, vs)) = true := by decide +kernel
set_option maxRecDepth 100000 in
theorem x_X9_grows_0 (d : Nat) (hG : zGood gh) : zS l G gh (d + 5) (zpost (zAlq al_X9_grows_0)) n_X9_grows (zn 0 p_X9_grows 0) (zwc (0, [.inr (.ref 292), .inl 8589934591, .inl 8589934591], zP q_X9_grows_0) 0) := zentry (tt_X9_grows d hG) fm_X9_grows_0 bf_X9_grows_0 1000 (by decide +kernel) rfl ⟨Nat.zero_lt_succ _, trivial⟩ (fun f hf => match f, hf with
  | 0, _ => fun vs hv => (zbox_t r_X9_grows_0_0) vs hv
  | f + 1, h => absurd (show f + 1 < 1 from h) (Nat.not_lt.mpr (Nat.le_add_left 1 f)))
noncomputable def gs_X9_grows_0 : zMt := zgq true zUN 3 [.inr (.ref 292), .inl 8589934591, .inl 8589934591] q_X9_grows_0 al_X9_grows_0
set_option maxRecDepth 100000 in
theorem cs_X9_grows_0 (d : Nat) (hG : zGood gh) : zC l G gh (d + 5) n_X9_grows gs_X9_grows_0 := zgq_ok zGood_ok (pcs := p_X9_grows) (by decide) rfl rfl (fun a ha => by simp only [al_X9_grows_0, List.mem_cons, List.not_mem_nil, or_false] at ha; rcases ha with rfl <;> decide +kernel) (fun gh hG => x_X9_grows_0 d hG) (by decide +kernel) hG
noncomputable def gs_X9_grows : zMt := gs_X9_grows_0
theorem cs_X9_grows (d : Nat) (hG : zGood gh) : zC l G gh (d + 5) n_X9_grows gs_X9_grows := (cs_X9_grows_0 d hG)
def p_X9_sees : List Nat := [0]
noncomputable def b_X9_sees_0 : zBl := fun jp K => oAld 0 <| oIld 1 <| oAld 0 <| oGetR 9 23 <| oInt 2147483654 <| oAld 0 <| oGetI 9 18 <| oB2 zimul <| oIld 2 <| oB2 zadd <| oXald 10 <| oAld 0 <| oGetR 9 24 <| oInt 2147483654 <| oAld 0 <| oGetI 9 18 <| oB2 zimul <| oIld 2 <| oB2 zadd <| oXald 10 <| oIld 3 <| oCv 9 4 gs_X9_isSeen <| oZret K
theorem s_X9_sees_0 (d : Nat) (hG : zGood gh) : zPb l G gh (d + 6) n_X9_sees p_X9_sees 0 b_X9_sees_0 := fun K jp hj =>
    z_aload_n (n := 0) (i := 0) (zd (i := .aload_n 0) (n := 1) (by decide +kernel)) rfl <|
    z_iload_n (n := 1) (i := 1) (zd (i := .iload_n 1) (n := 1) (by decide +kernel)) rfl <|
    z_aload_n (n := 0) (i := 0) (zd (i := .aload_n 0) (n := 1) (by decide +kernel)) rfl <|
    z_getR (ci := 9) (j := 23) (idx := 46) (zd (i := .getfield 46) (n := 3) (by decide +kernel)) (by decide +kernel) (by decide +kernel) rfl g1151 <|
    z_bipush (n := 6) (zd (i := .bipush (6)) (n := 2) (by decide +kernel)) (by decide +kernel) <|
    z_aload_n (n := 0) (i := 0) (zd (i := .aload_n 0) (n := 1) (by decide +kernel)) rfl <|
    z_getI (ci := 9) (j := 18) (idx := 230) (zd (i := .getfield 230) (n := 3) (by decide +kernel)) (by decide +kernel) (by decide +kernel) rfl g1146 <|
    z_imul (zd (i := .imul) (n := 1) (by decide +kernel)) <|
    z_iload_n (n := 2) (i := 2) (zd (i := .iload_n 2) (n := 1) (by decide +kernel)) rfl <|
    z_iadd (zd (i := .iadd) (n := 1) (by decide +kernel)) <|
    z_iald (zd (i := .iaload) (n := 1) (by decide +kernel)) <|
    z_aload_n (n := 0) (i := 0) (zd (i := .aload_n 0) (n := 1) (by decide +kernel)) rfl <|
    z_getR (ci := 9) (j := 24) (idx := 49) (zd (i := .getfield 49) (n := 3) (by decide +kernel)) (by decide +kernel) (by decide +kernel) rfl g1152 <|
    z_bipush (n := 6) (zd (i := .bipush (6)) (n := 2) (by decide +kernel)) (by decide +kernel) <|
    z_aload_n (n := 0) (i := 0) (zd (i := .aload_n 0) (n := 1) (by decide +kernel)) rfl <|
    z_getI (ci := 9) (j := 18) (idx := 230) (zd (i := .getfield 230) (n := 3) (by decide +kernel)) (by decide +kernel) (by decide +kernel) rfl g1146 <|
    z_imul (zd (i := .imul) (n := 1) (by decide +kernel)) <|
    z_iload_n (n := 2) (i := 2) (zd (i := .iload_n 2) (n := 1) (by decide +kernel)) rfl <|
    z_iadd (zd (i := .iadd) (n := 1) (by decide +kernel)) <|
    z_iald (zd (i := .iaload) (n := 1) (by decide +kernel)) <|
    z_iload_n (n := 3) (i := 3) (zd (i := .iload_n 3) (n := 1) (by decide +kernel)) rfl <|
    z_callV (idx := 337) (ci := 9) (N := n_X9_isSeen) (zd (i := .invokevirtual 337) (n := 3) (by decide +kernel)) to_X9_isSeen g1453 g1455 g69 (by decide +kernel) rfl rfl rfl (cs_X9_isSeen (l := l) (G := G) (gh := gh) (d) hG) <|
    z_zret (zd (i := .ireturn) (n := 1) (by decide +kernel)) rfl
noncomputable def t_X9_sees : List zBl := [b_X9_sees_0]
theorem tt_X9_sees (d : Nat) (hG : zGood gh) : zT (zPb l G gh (d + 6) n_X9_sees p_X9_sees) t_X9_sees p_X9_sees := ⟨s_X9_sees_0 d hG, trivial⟩
def q_X9_sees_0 : List (Nat × Nat) := [(292, zk102), (302, zk111), (303, zk111), (321, zk3), (322, zk116)]
noncomputable def al_X9_sees_0 : zAq := [(some (.inl 9223372043297226753), [(292, zk105), (302, zk111), (303, zk111), (321, zk4), (322, zk117)])]
noncomputable def fm_X9_sees_0 : List zFm := [(0, [], (fun vs => [.inr (.ref 292), .inl 8589934591, .inl 9223372043297226757, .inl 8589934591]), (fun vs => zP q_X9_sees_0), (fun vs => Nat.sub (Nat.add 0 0) 0))]
def bf_X9_sees_0 : List Nat := []
theorem r_X9_sees_0_0 : zbox [] (fun vs => zFrun (zpost (zAlq al_X9_sees_0)) 1000 t_X9_sees fm_X9_sees_0 bf_X9_sees_0 (0, vs)) = true := by decide +kernel
set_option maxRecDepth 100000 in
theorem x_X9_sees_0 (d : Nat) (hG : zGood gh) : zS l G gh (d + 6) (zpost (zAlq al_X9_sees_0)) n_X9_sees (zn 0 p_X9_sees 0) (zwc (0, [.inr (.ref 292), .inl 8589934591, .inl 9223372043297226757, .inl 8589934591], zP q_X9_sees_0) 0) := zentry (tt_X9_sees d hG) fm_X9_sees_0 bf_X9_sees_0 1000 (by decide +kernel) rfl ⟨Nat.zero_lt_succ _, trivial⟩ (fun f hf => match f, hf with
  | 0, _ => fun vs hv => (zbox_t r_X9_sees_0_0) vs hv
  | f + 1, h => absurd (show f + 1 < 1 from h) (Nat.not_lt.mpr (Nat.le_add_left 1 f)))
noncomputable def gs_X9_sees_0 : zMt := zgq true zUN 4 [.inr (.ref 292), .inl 8589934591, .inl 9223372043297226757, .inl 8589934591] q_X9_sees_0 al_X9_sees_0
set_option maxRecDepth 100000 in
theorem cs_X9_sees_0 (d : Nat) (hG : zGood gh) : zC l G gh (d + 6) n_X9_sees gs_X9_sees_0 := zgq_ok zGood_ok (pcs := p_X9_sees) (by decide) rfl rfl (fun a ha => by simp only [al_X9_sees_0, List.mem_cons, List.not_mem_nil, or_false] at ha; rcases ha with rfl <;> decide +kernel) (fun gh hG => x_X9_sees_0 d hG) (by decide +kernel) hG
noncomputable def gs_X9_sees : zMt := gs_X9_sees_0
theorem cs_X9_sees (d : Nat) (hG : zGood gh) : zC l G gh (d + 6) n_X9_sees gs_X9_sees := (cs_X9_sees_0 d hG)
def p_X9_tells : List Nat := [0, 11, 19, 23, 24, 68, 75, 80, 118, 120, 121, 126, 138, 151, 153, 154, 166, 177, 179, 180]
noncomputable def b_X9_tells_0 : zBl := fun jp K => oAld 0 <| oCv 9 0 gs_X9_copies <| oIld 2 <| oCs 1 f_X9_isX <| oIf zeq zne (jp 3) (jp 1)
theorem s_X9_tells_0 (d : Nat) (hG : zGood gh) : zPb l G gh (d + 6) n_X9_tells p_X9_tells 0 b_X9_tells_0 := fun K jp hj =>
    z_aload_n (n := 0) (i := 0) (zd (i := .aload_n 0) (n := 1) (by decide +kernel)) rfl <|
    z_callV (idx := 375) (ci := 9) (N := n_X9_copies) (zd (i := .invokevirtual 375) (n := 3) (by decide +kernel)) to_X9_copies g1445 g1447 g67 (by decide +kernel) rfl rfl rfl (cs_X9_copies (l := l) (G := G) (gh := gh) (d + 4)) <|
    z_iload_n (n := 2) (i := 2) (zd (i := .iload_n 2) (n := 1) (by decide +kernel)) rfl <|
    z_callS (idx := 387) (N := n_X9_isX) (zd (i := .invokestatic 387) (n := 3) (by decide +kernel)) to_X9_isX g1507 g1508 rfl rfl (c_X9_isX (l := l) (G := G) (gh := gh) (d + 3)) <|
    z_if_eq (off := 15) (tgt := 23) (zd (i := .ifCond .eq (15)) (n := 3) (by decide +kernel)) (by decide +kernel) (zj (hj 3) (by decide +kernel)) (zj (hj 1) (by decide +kernel))
noncomputable def b_X9_tells_1 : zBl := fun jp K => oAld 0 <| oIld 3 <| oCv 9 1 f_X9_isThing <| oIf zeq zne (jp 3) (jp 2)
theorem s_X9_tells_1 (d : Nat) (hG : zGood gh) : zPb l G gh (d + 6) n_X9_tells p_X9_tells 11 b_X9_tells_1 := fun K jp hj =>
    z_aload_n (n := 0) (i := 0) (zd (i := .aload_n 0) (n := 1) (by decide +kernel)) rfl <|
    z_iload_n (n := 3) (i := 3) (zd (i := .iload_n 3) (n := 1) (by decide +kernel)) rfl <|
    z_callV (idx := 372) (ci := 9) (N := n_X9_isThing) (zd (i := .invokevirtual 372) (n := 3) (by decide +kernel)) to_X9_isThing g1438 g1440 g66 (by decide +kernel) rfl rfl rfl (c_X9_isThing (l := l) (G := G) (gh := gh) (d + 3)) <|
    z_if_eq (off := 7) (tgt := 23) (zd (i := .ifCond .eq (7)) (n := 3) (by decide +kernel)) (by decide +kernel) (zj (hj 3) (by decide +kernel)) (zj (hj 2) (by decide +kernel))
noncomputable def b_X9_tells_2 : zBl := fun jp K => oInt 2147483649 <| jp 4
theorem s_X9_tells_2 (d : Nat) (hG : zGood gh) : zPb l G gh (d + 6) n_X9_tells p_X9_tells 19 b_X9_tells_2 := fun K jp hj =>
    z_iconst (n := 1) (zd (i := .iconst (1)) (n := 1) (by decide +kernel)) (by decide +kernel) <|
    z_goto (off := 4) (tgt := 24) (zd (i := .goto (4)) (n := 3) (by decide +kernel)) (by decide +kernel) (zj (hj 4) (by decide +kernel))
noncomputable def b_X9_tells_3 : zBl := fun jp K => oInt 2147483648 <| jp 4
theorem s_X9_tells_3 (d : Nat) (hG : zGood gh) : zPb l G gh (d + 6) n_X9_tells p_X9_tells 23 b_X9_tells_3 := fun K jp hj =>
    z_iconst (n := 0) (zd (i := .iconst (0)) (n := 1) (by decide +kernel)) (by decide +kernel) <|
    (zj (hj 4) (by decide +kernel))
noncomputable def b_X9_tells_4 : zBl := fun jp K => oIst 5 <| oAld 0 <| oGetR 9 49 <| oInt 2147483744 <| oXald 10 <| oIst 6 <| oIld 1 <| oTab 2147483648 [jp 5, jp 6, jp 10, jp 15] (jp 19)
theorem s_X9_tells_4 (d : Nat) (hG : zGood gh) : zPb l G gh (d + 6) n_X9_tells p_X9_tells 24 b_X9_tells_4 := fun K jp hj =>
    z_istore (i := 5) (zd (i := .istore 5) (n := 2) (by decide +kernel)) (by decide +kernel) <|
    z_aload_n (n := 0) (i := 0) (zd (i := .aload_n 0) (n := 1) (by decide +kernel)) rfl <|
    z_getR (ci := 9) (j := 49) (idx := 113) (zd (i := .getfield 113) (n := 3) (by decide +kernel)) (by decide +kernel) (by decide +kernel) rfl g1177 <|
    z_bipush (n := 96) (zd (i := .bipush (96)) (n := 2) (by decide +kernel)) (by decide +kernel) <|
    z_iald (zd (i := .iaload) (n := 1) (by decide +kernel)) <|
    z_istore (i := 6) (zd (i := .istore 6) (n := 2) (by decide +kernel)) (by decide +kernel) <|
    z_iload_n (n := 1) (i := 1) (zd (i := .iload_n 1) (n := 1) (by decide +kernel)) rfl <|
    z_table (v := 2147483648) (df := 180) (len := 32) (x := 0) (dflt := 144) (lo := 0) (hi := 3) (offs := #[32, 39, 85, 118]) (tgts := [68, 75, 121, 154]) (zd (i := .tableswitch (144) (0) (3) #[32, 39, 85, 118]) (n := 32) (by decide +kernel)) (by decide +kernel) rfl rfl (by decide +kernel) (by decide +kernel) (by decide +kernel) ⟨(zj (hj 5) (by decide +kernel)), (zj (hj 6) (by decide +kernel)), (zj (hj 10) (by decide +kernel)), (zj (hj 15) (by decide +kernel)), trivial⟩ (zj (hj 19) (by decide +kernel))
noncomputable def b_X9_tells_5 : zBl := fun jp K => oAld 0 <| oIld 6 <| oCv 9 1 gs_X9_heatAt <| oIret K
theorem s_X9_tells_5 (d : Nat) (hG : zGood gh) : zPb l G gh (d + 6) n_X9_tells p_X9_tells 68 b_X9_tells_5 := fun K jp hj =>
    z_aload_n (n := 0) (i := 0) (zd (i := .aload_n 0) (n := 1) (by decide +kernel)) rfl <|
    z_iload (i := 6) (zd (i := .iload 6) (n := 2) (by decide +kernel)) <|
    z_callV (idx := 327) (ci := 9) (N := n_X9_heatAt) (zd (i := .invokevirtual 327) (n := 3) (by decide +kernel)) to_X9_heatAt g1461 g1463 g71 (by decide +kernel) rfl rfl rfl (cs_X9_heatAt (l := l) (G := G) (gh := gh) (d + 2) hG) <|
    z_iret (zd (i := .ireturn) (n := 1) (by decide +kernel)) rfl
noncomputable def b_X9_tells_6 : zBl := fun jp K => oNLC 5 2147483648 zeqN zneN zn1_eq zn1_ne (jp 8) (jp 7)
theorem s_X9_tells_6 (d : Nat) (hG : zGood gh) : zPb l G gh (d + 6) n_X9_tells p_X9_tells 75 b_X9_tells_6 := fun K jp hj =>
    z_nL0_eq (i := 5) (a1 := 2) (off := 41) (tgt := 118) (zLd_w (i := 5) (zd (i := .iload 5) (n := 2) (by decide +kernel))) (zd (i := .ifCond .eq (41)) (n := 3) (by decide +kernel)) (by decide +kernel) (zj (hj 8) (by decide +kernel)) (zj (hj 7) (by decide +kernel))
noncomputable def b_X9_tells_7 : zBl := fun jp K => oAld 0 <| oIld 2 <| oAld 0 <| oGetR 9 23 <| oInt 2147483654 <| oAld 0 <| oGetI 9 18 <| oB2 zimul <| oIld 3 <| oB2 zadd <| oXald 10 <| oAld 0 <| oGetR 9 24 <| oInt 2147483654 <| oAld 0 <| oGetI 9 18 <| oB2 zimul <| oIld 3 <| oB2 zadd <| oXald 10 <| oIld 6 <| oCv 9 4 gs_X9_movedBy <| jp 9
theorem s_X9_tells_7 (d : Nat) (hG : zGood gh) : zPb l G gh (d + 6) n_X9_tells p_X9_tells 80 b_X9_tells_7 := fun K jp hj =>
    z_aload_n (n := 0) (i := 0) (zd (i := .aload_n 0) (n := 1) (by decide +kernel)) rfl <|
    z_iload_n (n := 2) (i := 2) (zd (i := .iload_n 2) (n := 1) (by decide +kernel)) rfl <|
    z_aload_n (n := 0) (i := 0) (zd (i := .aload_n 0) (n := 1) (by decide +kernel)) rfl <|
    z_getR (ci := 9) (j := 23) (idx := 46) (zd (i := .getfield 46) (n := 3) (by decide +kernel)) (by decide +kernel) (by decide +kernel) rfl g1151 <|
    z_bipush (n := 6) (zd (i := .bipush (6)) (n := 2) (by decide +kernel)) (by decide +kernel) <|
    z_aload_n (n := 0) (i := 0) (zd (i := .aload_n 0) (n := 1) (by decide +kernel)) rfl <|
    z_getI (ci := 9) (j := 18) (idx := 230) (zd (i := .getfield 230) (n := 3) (by decide +kernel)) (by decide +kernel) (by decide +kernel) rfl g1146 <|
    z_imul (zd (i := .imul) (n := 1) (by decide +kernel)) <|
    z_iload_n (n := 3) (i := 3) (zd (i := .iload_n 3) (n := 1) (by decide +kernel)) rfl <|
    z_iadd (zd (i := .iadd) (n := 1) (by decide +kernel)) <|
    z_iald (zd (i := .iaload) (n := 1) (by decide +kernel)) <|
    z_aload_n (n := 0) (i := 0) (zd (i := .aload_n 0) (n := 1) (by decide +kernel)) rfl <|
    z_getR (ci := 9) (j := 24) (idx := 49) (zd (i := .getfield 49) (n := 3) (by decide +kernel)) (by decide +kernel) (by decide +kernel) rfl g1152 <|
    z_bipush (n := 6) (zd (i := .bipush (6)) (n := 2) (by decide +kernel)) (by decide +kernel) <|
    z_aload_n (n := 0) (i := 0) (zd (i := .aload_n 0) (n := 1) (by decide +kernel)) rfl <|
    z_getI (ci := 9) (j := 18) (idx := 230) (zd (i := .getfield 230) (n := 3) (by decide +kernel)) (by decide +kernel) (by decide +kernel) rfl g1146 <|
    z_imul (zd (i := .imul) (n := 1) (by decide +kernel)) <|
    z_iload_n (n := 3) (i := 3) (zd (i := .iload_n 3) (n := 1) (by decide +kernel)) rfl <|
    z_iadd (zd (i := .iadd) (n := 1) (by decide +kernel)) <|
    z_iald (zd (i := .iaload) (n := 1) (by decide +kernel)) <|
    z_iload (i := 6) (zd (i := .iload 6) (n := 2) (by decide +kernel)) <|
    z_callV (idx := 341) (ci := 9) (N := n_X9_movedBy) (zd (i := .invokevirtual 341) (n := 3) (by decide +kernel)) to_X9_movedBy g1510 g1512 g78 (by decide +kernel) rfl rfl rfl (cs_X9_movedBy (l := l) (G := G) (gh := gh) (d) hG) <|
    z_goto (off := 5) (tgt := 120) (zd (i := .goto (5)) (n := 3) (by decide +kernel)) (by decide +kernel) (zj (hj 9) (by decide +kernel))
noncomputable def b_X9_tells_8 : zBl := fun jp K => oInt 2147483548 <| jp 9
theorem s_X9_tells_8 (d : Nat) (hG : zGood gh) : zPb l G gh (d + 6) n_X9_tells p_X9_tells 118 b_X9_tells_8 := fun K jp hj =>
    z_bipush (n := -100) (zd (i := .bipush (-100)) (n := 2) (by decide +kernel)) (by decide +kernel) <|
    (zj (hj 9) (by decide +kernel))
noncomputable def b_X9_tells_9 : zBl := fun jp K => oIret K
theorem s_X9_tells_9 (d : Nat) (hG : zGood gh) : zPb l G gh (d + 6) n_X9_tells p_X9_tells 120 b_X9_tells_9 := fun K jp hj =>
    z_iret (zd (i := .ireturn) (n := 1) (by decide +kernel)) rfl
noncomputable def b_X9_tells_10 : zBl := fun jp K => oNLC 5 2147483648 zeqN zneN zn1_eq zn1_ne (jp 13) (jp 11)
theorem s_X9_tells_10 (d : Nat) (hG : zGood gh) : zPb l G gh (d + 6) n_X9_tells p_X9_tells 121 b_X9_tells_10 := fun K jp hj =>
    z_nL0_eq (i := 5) (a1 := 2) (off := 28) (tgt := 151) (zLd_w (i := 5) (zd (i := .iload 5) (n := 2) (by decide +kernel))) (zd (i := .ifCond .eq (28)) (n := 3) (by decide +kernel)) (by decide +kernel) (zj (hj 13) (by decide +kernel)) (zj (hj 11) (by decide +kernel))
noncomputable def b_X9_tells_11 : zBl := fun jp K => oIld 4 <| oInt 2147483648 <| oInt 2147484647 <| oCs 3 f_X9_in <| oIf zeq zne (jp 13) (jp 12)
theorem s_X9_tells_11 (d : Nat) (hG : zGood gh) : zPb l G gh (d + 6) n_X9_tells p_X9_tells 126 b_X9_tells_11 := fun K jp hj =>
    z_iload (i := 4) (zd (i := .iload 4) (n := 2) (by decide +kernel)) <|
    z_iconst (n := 0) (zd (i := .iconst (0)) (n := 1) (by decide +kernel)) (by decide +kernel) <|
    z_sipush (n := 999) (zd (i := .sipush (999)) (n := 3) (by decide +kernel)) (by decide +kernel) <|
    z_callS (idx := 304) (N := n_X9_in) (zd (i := .invokestatic 304) (n := 3) (by decide +kernel)) to_X9_in g1442 g1443 rfl rfl (c_X9_in (l := l) (G := G) (gh := gh) (d + 4)) <|
    z_if_eq (off := 16) (tgt := 151) (zd (i := .ifCond .eq (16)) (n := 3) (by decide +kernel)) (by decide +kernel) (zj (hj 13) (by decide +kernel)) (zj (hj 12) (by decide +kernel))
noncomputable def b_X9_tells_12 : zBl := fun jp K => oAld 0 <| oIld 2 <| oIld 3 <| oIld 4 <| oIld 6 <| oCv 9 4 gs_X9_rentOf <| jp 14
theorem s_X9_tells_12 (d : Nat) (hG : zGood gh) : zPb l G gh (d + 6) n_X9_tells p_X9_tells 138 b_X9_tells_12 := fun K jp hj =>
    z_aload_n (n := 0) (i := 0) (zd (i := .aload_n 0) (n := 1) (by decide +kernel)) rfl <|
    z_iload_n (n := 2) (i := 2) (zd (i := .iload_n 2) (n := 1) (by decide +kernel)) rfl <|
    z_iload_n (n := 3) (i := 3) (zd (i := .iload_n 3) (n := 1) (by decide +kernel)) rfl <|
    z_iload (i := 4) (zd (i := .iload 4) (n := 2) (by decide +kernel)) <|
    z_iload (i := 6) (zd (i := .iload 6) (n := 2) (by decide +kernel)) <|
    z_callV (idx := 355) (ci := 9) (N := n_X9_rentOf) (zd (i := .invokevirtual 355) (n := 3) (by decide +kernel)) to_X9_rentOf g1514 g1516 g79 (by decide +kernel) rfl rfl rfl (cs_X9_rentOf (l := l) (G := G) (gh := gh) (d) hG) <|
    z_goto (off := 5) (tgt := 153) (zd (i := .goto (5)) (n := 3) (by decide +kernel)) (by decide +kernel) (zj (hj 14) (by decide +kernel))
noncomputable def b_X9_tells_13 : zBl := fun jp K => oInt 2147483548 <| jp 14
theorem s_X9_tells_13 (d : Nat) (hG : zGood gh) : zPb l G gh (d + 6) n_X9_tells p_X9_tells 151 b_X9_tells_13 := fun K jp hj =>
    z_bipush (n := -100) (zd (i := .bipush (-100)) (n := 2) (by decide +kernel)) (by decide +kernel) <|
    (zj (hj 14) (by decide +kernel))
noncomputable def b_X9_tells_14 : zBl := fun jp K => oIret K
theorem s_X9_tells_14 (d : Nat) (hG : zGood gh) : zPb l G gh (d + 6) n_X9_tells p_X9_tells 153 b_X9_tells_14 := fun K jp hj =>
    z_iret (zd (i := .ireturn) (n := 1) (by decide +kernel)) rfl
noncomputable def b_X9_tells_15 : zBl := fun jp K => oIld 4 <| oInt 2147483648 <| oInt 2147484647 <| oCs 3 f_X9_in <| oIf zeq zne (jp 17) (jp 16)
theorem s_X9_tells_15 (d : Nat) (hG : zGood gh) : zPb l G gh (d + 6) n_X9_tells p_X9_tells 154 b_X9_tells_15 := fun K jp hj =>
    z_iload (i := 4) (zd (i := .iload 4) (n := 2) (by decide +kernel)) <|
    z_iconst (n := 0) (zd (i := .iconst (0)) (n := 1) (by decide +kernel)) (by decide +kernel) <|
    z_sipush (n := 999) (zd (i := .sipush (999)) (n := 3) (by decide +kernel)) (by decide +kernel) <|
    z_callS (idx := 304) (N := n_X9_in) (zd (i := .invokestatic 304) (n := 3) (by decide +kernel)) to_X9_in g1442 g1443 rfl rfl (c_X9_in (l := l) (G := G) (gh := gh) (d + 4)) <|
    z_if_eq (off := 14) (tgt := 177) (zd (i := .ifCond .eq (14)) (n := 3) (by decide +kernel)) (by decide +kernel) (zj (hj 17) (by decide +kernel)) (zj (hj 16) (by decide +kernel))
noncomputable def b_X9_tells_16 : zBl := fun jp K => oAld 0 <| oIld 4 <| oIld 6 <| oCv 9 2 gs_X9_interestOf <| jp 18
theorem s_X9_tells_16 (d : Nat) (hG : zGood gh) : zPb l G gh (d + 6) n_X9_tells p_X9_tells 166 b_X9_tells_16 := fun K jp hj =>
    z_aload_n (n := 0) (i := 0) (zd (i := .aload_n 0) (n := 1) (by decide +kernel)) rfl <|
    z_iload (i := 4) (zd (i := .iload 4) (n := 2) (by decide +kernel)) <|
    z_iload (i := 6) (zd (i := .iload 6) (n := 2) (by decide +kernel)) <|
    z_callV (idx := 348) (ci := 9) (N := n_X9_interestOf) (zd (i := .invokevirtual 348) (n := 3) (by decide +kernel)) to_X9_interestOf g1518 g1520 g80 (by decide +kernel) rfl rfl rfl (cs_X9_interestOf (l := l) (G := G) (gh := gh) (d + 1) hG) <|
    z_goto (off := 5) (tgt := 179) (zd (i := .goto (5)) (n := 3) (by decide +kernel)) (by decide +kernel) (zj (hj 18) (by decide +kernel))
noncomputable def b_X9_tells_17 : zBl := fun jp K => oInt 2147483548 <| jp 18
theorem s_X9_tells_17 (d : Nat) (hG : zGood gh) : zPb l G gh (d + 6) n_X9_tells p_X9_tells 177 b_X9_tells_17 := fun K jp hj =>
    z_bipush (n := -100) (zd (i := .bipush (-100)) (n := 2) (by decide +kernel)) (by decide +kernel) <|
    (zj (hj 18) (by decide +kernel))
noncomputable def b_X9_tells_18 : zBl := fun jp K => oIret K
theorem s_X9_tells_18 (d : Nat) (hG : zGood gh) : zPb l G gh (d + 6) n_X9_tells p_X9_tells 179 b_X9_tells_18 := fun K jp hj =>
    z_iret (zd (i := .ireturn) (n := 1) (by decide +kernel)) rfl
noncomputable def b_X9_tells_19 : zBl := fun jp K => oInt 2147483548 <| oIret K
theorem s_X9_tells_19 (d : Nat) (hG : zGood gh) : zPb l G gh (d + 6) n_X9_tells p_X9_tells 180 b_X9_tells_19 := fun K jp hj =>
    z_bipush (n := -100) (zd (i := .bipush (-100)) (n := 2) (by decide +kernel)) (by decide +kernel) <|
    z_iret (zd (i := .ireturn) (n := 1) (by decide +kernel)) rfl
noncomputable def t_X9_tells : List zBl := [b_X9_tells_0, b_X9_tells_1, b_X9_tells_2, b_X9_tells_3, b_X9_tells_4, b_X9_tells_5, b_X9_tells_6, b_X9_tells_7, b_X9_tells_8, b_X9_tells_9, b_X9_tells_10, b_X9_tells_11, b_X9_tells_12, b_X9_tells_13, b_X9_tells_14, b_X9_tells_15, b_X9_tells_16, b_X9_tells_17, b_X9_tells_18, b_X9_tells_19]
theorem tt_X9_tells (d : Nat) (hG : zGood gh) : zT (zPb l G gh (d + 6) n_X9_tells p_X9_tells) t_X9_tells p_X9_tells := ⟨s_X9_tells_0 d hG, s_X9_tells_1 d hG, s_X9_tells_2 d hG, s_X9_tells_3 d hG, s_X9_tells_4 d hG, s_X9_tells_5 d hG, s_X9_tells_6 d hG, s_X9_tells_7 d hG, s_X9_tells_8 d hG, s_X9_tells_9 d hG, s_X9_tells_10 d hG, s_X9_tells_11 d hG, s_X9_tells_12 d hG, s_X9_tells_13 d hG, s_X9_tells_14 d hG, s_X9_tells_15 d hG, s_X9_tells_16 d hG, s_X9_tells_17 d hG, s_X9_tells_18 d hG, s_X9_tells_19 d hG, trivial⟩
def q_X9_tells_0 : List (Nat × Nat) := [(292, zk102), (301, zk107), (310, zk103), (321, zk3), (322, zk116), (323, zk104), (324, zk104)]
noncomputable def al_X9_tells_0 : zAq := [(some (.inl 9223372043297226851), [(292, zk105), (301, zk107), (310, zk103), (321, zk4), (322, zk117), (323, zk104), (324, zk106)])]
noncomputable def fm_X9_tells_0 : List zFm := [(0, [], (fun vs => [.inr (.ref 292), .inl 2147483648, .inl 9223372043297226771, .inl 9223372043297226757, .inl 8589934591]), (fun vs => zP q_X9_tells_0), (fun vs => Nat.sub (Nat.add 0 0) 0))]
def bf_X9_tells_0 : List Nat := []
theorem r_X9_tells_0_0 : zbox [] (fun vs => zFrun (zpost (zAlq al_X9_tells_0)) 1000 t_X9_tells fm_X9_tells_0 bf_X9_tells_0 (0, vs)) = true := by decide +kernel
set_option maxRecDepth 100000 in
theorem x_X9_tells_0 (d : Nat) (hG : zGood gh) : zS l G gh (d + 6) (zpost (zAlq al_X9_tells_0)) n_X9_tells (zn 0 p_X9_tells 0) (zwc (0, [.inr (.ref 292), .inl 2147483648, .inl 9223372043297226771, .inl 9223372043297226757, .inl 8589934591], zP q_X9_tells_0) 0) := zentry (tt_X9_tells d hG) fm_X9_tells_0 bf_X9_tells_0 1000 (by decide +kernel) rfl ⟨Nat.zero_lt_succ _, trivial⟩ (fun f hf => match f, hf with
  | 0, _ => fun vs hv => (zbox_t r_X9_tells_0_0) vs hv
  | f + 1, h => absurd (show f + 1 < 1 from h) (Nat.not_lt.mpr (Nat.le_add_left 1 f)))
noncomputable def gs_X9_tells_0 : zMt := zgq true zUN 7 [.inr (.ref 292), .inl 2147483648, .inl 9223372043297226771, .inl 9223372043297226757, .inl 8589934591] q_X9_tells_0 al_X9_tells_0
set_option maxRecDepth 100000 in
theorem cs_X9_tells_0 (d : Nat) (hG : zGood gh) : zC l G gh (d + 6) n_X9_tells gs_X9_tells_0 := zgq_ok zGood_ok (pcs := p_X9_tells) (by decide) rfl rfl (fun a ha => by simp only [al_X9_tells_0, List.mem_cons, List.not_mem_nil, or_false] at ha; rcases ha with rfl <;> decide +kernel) (fun gh hG => x_X9_tells_0 d hG) (by decide +kernel) hG
def q_X9_tells_1 : List (Nat × Nat) := [(292, zk102), (301, zk107), (310, zk103), (321, zk3), (322, zk116), (323, zk104), (324, zk104)]
noncomputable def al_X9_tells_1 : zAq := [(some (.inl 9223372043297226851), [(292, zk105), (301, zk107), (310, zk103), (321, zk4), (322, zk117), (323, zk104), (324, zk106)])]
noncomputable def fm_X9_tells_1 : List zFm := [(0, [], (fun vs => [.inr (.ref 292), .inl 2147483648, .inl 9223372043297226771, .inl 6442450943, .inl 8589934591]), (fun vs => zP q_X9_tells_1), (fun vs => Nat.sub (Nat.add 0 0) 0))]
def bf_X9_tells_1 : List Nat := []
theorem r_X9_tells_1_0 : zbox [] (fun vs => zFrun (zpost (zAlq al_X9_tells_1)) 1000 t_X9_tells fm_X9_tells_1 bf_X9_tells_1 (0, vs)) = true := by decide +kernel
set_option maxRecDepth 100000 in
theorem x_X9_tells_1 (d : Nat) (hG : zGood gh) : zS l G gh (d + 6) (zpost (zAlq al_X9_tells_1)) n_X9_tells (zn 0 p_X9_tells 0) (zwc (0, [.inr (.ref 292), .inl 2147483648, .inl 9223372043297226771, .inl 6442450943, .inl 8589934591], zP q_X9_tells_1) 0) := zentry (tt_X9_tells d hG) fm_X9_tells_1 bf_X9_tells_1 1000 (by decide +kernel) rfl ⟨Nat.zero_lt_succ _, trivial⟩ (fun f hf => match f, hf with
  | 0, _ => fun vs hv => (zbox_t r_X9_tells_1_0) vs hv
  | f + 1, h => absurd (show f + 1 < 1 from h) (Nat.not_lt.mpr (Nat.le_add_left 1 f)))
noncomputable def gs_X9_tells_1 : zMt := zgq true zUN 7 [.inr (.ref 292), .inl 2147483648, .inl 9223372043297226771, .inl 6442450943, .inl 8589934591] q_X9_tells_1 al_X9_tells_1
set_option maxRecDepth 100000 in
theorem cs_X9_tells_1 (d : Nat) (hG : zGood gh) : zC l G gh (d + 6) n_X9_tells gs_X9_tells_1 := zgq_ok zGood_ok (pcs := p_X9_tells) (by decide) rfl rfl (fun a ha => by simp only [al_X9_tells_1, List.mem_cons, List.not_mem_nil, or_false] at ha; rcases ha with rfl <;> decide +kernel) (fun gh hG => x_X9_tells_1 d hG) (by decide +kernel) hG
def q_X9_tells_2 : List (Nat × Nat) := [(292, zk102), (301, zk107), (310, zk103), (321, zk3), (322, zk116), (323, zk104), (324, zk104)]
noncomputable def al_X9_tells_2 : zAq := [(some (.inl 9223372043297226851), [(292, zk105), (301, zk107), (310, zk103), (321, zk4), (322, zk117), (323, zk104), (324, zk106)])]
noncomputable def fm_X9_tells_2 : List zFm := [(0, [], (fun vs => [.inr (.ref 292), .inl 2147483648, .inl 9223372043297226771, .inl 9223372071214514175, .inl 8589934591]), (fun vs => zP q_X9_tells_2), (fun vs => Nat.sub (Nat.add 0 0) 0))]
def bf_X9_tells_2 : List Nat := []
theorem r_X9_tells_2_0 : zbox [] (fun vs => zFrun (zpost (zAlq al_X9_tells_2)) 1000 t_X9_tells fm_X9_tells_2 bf_X9_tells_2 (0, vs)) = true := by decide +kernel
set_option maxRecDepth 100000 in
theorem x_X9_tells_2 (d : Nat) (hG : zGood gh) : zS l G gh (d + 6) (zpost (zAlq al_X9_tells_2)) n_X9_tells (zn 0 p_X9_tells 0) (zwc (0, [.inr (.ref 292), .inl 2147483648, .inl 9223372043297226771, .inl 9223372071214514175, .inl 8589934591], zP q_X9_tells_2) 0) := zentry (tt_X9_tells d hG) fm_X9_tells_2 bf_X9_tells_2 1000 (by decide +kernel) rfl ⟨Nat.zero_lt_succ _, trivial⟩ (fun f hf => match f, hf with
  | 0, _ => fun vs hv => (zbox_t r_X9_tells_2_0) vs hv
  | f + 1, h => absurd (show f + 1 < 1 from h) (Nat.not_lt.mpr (Nat.le_add_left 1 f)))
noncomputable def gs_X9_tells_2 : zMt := zgq true zUN 7 [.inr (.ref 292), .inl 2147483648, .inl 9223372043297226771, .inl 9223372071214514175, .inl 8589934591] q_X9_tells_2 al_X9_tells_2
set_option maxRecDepth 100000 in
theorem cs_X9_tells_2 (d : Nat) (hG : zGood gh) : zC l G gh (d + 6) n_X9_tells gs_X9_tells_2 := zgq_ok zGood_ok (pcs := p_X9_tells) (by decide) rfl rfl (fun a ha => by simp only [al_X9_tells_2, List.mem_cons, List.not_mem_nil, or_false] at ha; rcases ha with rfl <;> decide +kernel) (fun gh hG => x_X9_tells_2 d hG) (by decide +kernel) hG
def q_X9_tells_3 : List (Nat × Nat) := [(292, zk102), (310, zk103), (321, zk3), (322, zk116), (323, zk104), (324, zk104)]
noncomputable def al_X9_tells_3 : zAq := [(some (.inl 9223372043297226851), [(292, zk105), (310, zk103), (321, zk4), (322, zk117), (323, zk104), (324, zk106)])]
noncomputable def fm_X9_tells_3 : List zFm := [(0, [], (fun vs => [.inr (.ref 292), .inl 2147483648, .inl 6442450943, .inl 8589934591, .inl 8589934591]), (fun vs => zP q_X9_tells_3), (fun vs => Nat.sub (Nat.add 0 0) 0))]
def bf_X9_tells_3 : List Nat := []
theorem r_X9_tells_3_0 : zbox [] (fun vs => zFrun (zpost (zAlq al_X9_tells_3)) 1000 t_X9_tells fm_X9_tells_3 bf_X9_tells_3 (0, vs)) = true := by decide +kernel
set_option maxRecDepth 100000 in
theorem x_X9_tells_3 (d : Nat) (hG : zGood gh) : zS l G gh (d + 6) (zpost (zAlq al_X9_tells_3)) n_X9_tells (zn 0 p_X9_tells 0) (zwc (0, [.inr (.ref 292), .inl 2147483648, .inl 6442450943, .inl 8589934591, .inl 8589934591], zP q_X9_tells_3) 0) := zentry (tt_X9_tells d hG) fm_X9_tells_3 bf_X9_tells_3 1000 (by decide +kernel) rfl ⟨Nat.zero_lt_succ _, trivial⟩ (fun f hf => match f, hf with
  | 0, _ => fun vs hv => (zbox_t r_X9_tells_3_0) vs hv
  | f + 1, h => absurd (show f + 1 < 1 from h) (Nat.not_lt.mpr (Nat.le_add_left 1 f)))
noncomputable def gs_X9_tells_3 : zMt := zgq true zUN 7 [.inr (.ref 292), .inl 2147483648, .inl 6442450943, .inl 8589934591, .inl 8589934591] q_X9_tells_3 al_X9_tells_3
set_option maxRecDepth 100000 in
theorem cs_X9_tells_3 (d : Nat) (hG : zGood gh) : zC l G gh (d + 6) n_X9_tells gs_X9_tells_3 := zgq_ok zGood_ok (pcs := p_X9_tells) (by decide) rfl rfl (fun a ha => by simp only [al_X9_tells_3, List.mem_cons, List.not_mem_nil, or_false] at ha; rcases ha with rfl <;> decide +kernel) (fun gh hG => x_X9_tells_3 d hG) (by decide +kernel) hG
def q_X9_tells_4 : List (Nat × Nat) := [(292, zk102), (310, zk103), (321, zk3), (322, zk116), (323, zk104), (324, zk104)]
noncomputable def al_X9_tells_4 : zAq := [(some (.inl 9223372043297226851), [(292, zk105), (310, zk103), (321, zk4), (322, zk117), (323, zk104), (324, zk106)])]
noncomputable def fm_X9_tells_4 : List zFm := [(0, [], (fun vs => [.inr (.ref 292), .inl 2147483648, .inl 9223372131344056319, .inl 8589934591, .inl 8589934591]), (fun vs => zP q_X9_tells_4), (fun vs => Nat.sub (Nat.add 0 0) 0))]
def bf_X9_tells_4 : List Nat := []
theorem r_X9_tells_4_0 : zbox [] (fun vs => zFrun (zpost (zAlq al_X9_tells_4)) 1000 t_X9_tells fm_X9_tells_4 bf_X9_tells_4 (0, vs)) = true := by decide +kernel
set_option maxRecDepth 100000 in
theorem x_X9_tells_4 (d : Nat) (hG : zGood gh) : zS l G gh (d + 6) (zpost (zAlq al_X9_tells_4)) n_X9_tells (zn 0 p_X9_tells 0) (zwc (0, [.inr (.ref 292), .inl 2147483648, .inl 9223372131344056319, .inl 8589934591, .inl 8589934591], zP q_X9_tells_4) 0) := zentry (tt_X9_tells d hG) fm_X9_tells_4 bf_X9_tells_4 1000 (by decide +kernel) rfl ⟨Nat.zero_lt_succ _, trivial⟩ (fun f hf => match f, hf with
  | 0, _ => fun vs hv => (zbox_t r_X9_tells_4_0) vs hv
  | f + 1, h => absurd (show f + 1 < 1 from h) (Nat.not_lt.mpr (Nat.le_add_left 1 f)))
noncomputable def gs_X9_tells_4 : zMt := zgq true zUN 7 [.inr (.ref 292), .inl 2147483648, .inl 9223372131344056319, .inl 8589934591, .inl 8589934591] q_X9_tells_4 al_X9_tells_4
set_option maxRecDepth 100000 in
theorem cs_X9_tells_4 (d : Nat) (hG : zGood gh) : zC l G gh (d + 6) n_X9_tells gs_X9_tells_4 := zgq_ok zGood_ok (pcs := p_X9_tells) (by decide) rfl rfl (fun a ha => by simp only [al_X9_tells_4, List.mem_cons, List.not_mem_nil, or_false] at ha; rcases ha with rfl <;> decide +kernel) (fun gh hG => x_X9_tells_4 d hG) (by decide +kernel) hG
def q_X9_tells_5 : List (Nat × Nat) := [(292, zk102), (301, zk107), (302, zk111), (303, zk111), (310, zk103), (321, zk3), (322, zk116), (323, zk104), (324, zk104)]
noncomputable def al_X9_tells_5 : zAq := [(some (.inl 9223371613800497161), [(292, zk105), (301, zk107), (302, zk111), (303, zk111), (310, zk103), (321, zk4), (322, zk117), (323, zk104), (324, zk106)])]
noncomputable def fm_X9_tells_5 : List zFm := [(0, [], (fun vs => [.inr (.ref 292), .inl 2147483649, .inl 9223372043297226771, .inl 9223372043297226757, .inl 8589934591]), (fun vs => zP q_X9_tells_5), (fun vs => Nat.sub (Nat.add 0 0) 0))]
def bf_X9_tells_5 : List Nat := []
theorem r_X9_tells_5_0 : zbox [] (fun vs => zFrun (zpost (zAlq al_X9_tells_5)) 1000 t_X9_tells fm_X9_tells_5 bf_X9_tells_5 (0, vs)) = true := by decide +kernel
set_option maxRecDepth 100000 in
theorem x_X9_tells_5 (d : Nat) (hG : zGood gh) : zS l G gh (d + 6) (zpost (zAlq al_X9_tells_5)) n_X9_tells (zn 0 p_X9_tells 0) (zwc (0, [.inr (.ref 292), .inl 2147483649, .inl 9223372043297226771, .inl 9223372043297226757, .inl 8589934591], zP q_X9_tells_5) 0) := zentry (tt_X9_tells d hG) fm_X9_tells_5 bf_X9_tells_5 1000 (by decide +kernel) rfl ⟨Nat.zero_lt_succ _, trivial⟩ (fun f hf => match f, hf with
  | 0, _ => fun vs hv => (zbox_t r_X9_tells_5_0) vs hv
  | f + 1, h => absurd (show f + 1 < 1 from h) (Nat.not_lt.mpr (Nat.le_add_left 1 f)))
noncomputable def gs_X9_tells_5 : zMt := zgq true zUN 7 [.inr (.ref 292), .inl 2147483649, .inl 9223372043297226771, .inl 9223372043297226757, .inl 8589934591] q_X9_tells_5 al_X9_tells_5
set_option maxRecDepth 100000 in
theorem cs_X9_tells_5 (d : Nat) (hG : zGood gh) : zC l G gh (d + 6) n_X9_tells gs_X9_tells_5 := zgq_ok zGood_ok (pcs := p_X9_tells) (by decide) rfl rfl (fun a ha => by simp only [al_X9_tells_5, List.mem_cons, List.not_mem_nil, or_false] at ha; rcases ha with rfl <;> decide +kernel) (fun gh hG => x_X9_tells_5 d hG) (by decide +kernel) hG
def q_X9_tells_6 : List (Nat × Nat) := [(292, zk102), (301, zk107), (310, zk103), (323, zk104), (324, zk104)]
noncomputable def al_X9_tells_6 : zAq := [(some (.inl 2147483548), [(292, zk105), (301, zk107), (310, zk103), (323, zk104), (324, zk106)])]
noncomputable def fm_X9_tells_6 : List zFm := [(0, [], (fun vs => [.inr (.ref 292), .inl 2147483649, .inl 9223372043297226771, .inl 6442450943, .inl 8589934591]), (fun vs => zP q_X9_tells_6), (fun vs => Nat.sub (Nat.add 0 0) 0))]
def bf_X9_tells_6 : List Nat := []
theorem r_X9_tells_6_0 : zbox [] (fun vs => zFrun (zpost (zAlq al_X9_tells_6)) 1000 t_X9_tells fm_X9_tells_6 bf_X9_tells_6 (0, vs)) = true := by decide +kernel
set_option maxRecDepth 100000 in
theorem x_X9_tells_6 (d : Nat) (hG : zGood gh) : zS l G gh (d + 6) (zpost (zAlq al_X9_tells_6)) n_X9_tells (zn 0 p_X9_tells 0) (zwc (0, [.inr (.ref 292), .inl 2147483649, .inl 9223372043297226771, .inl 6442450943, .inl 8589934591], zP q_X9_tells_6) 0) := zentry (tt_X9_tells d hG) fm_X9_tells_6 bf_X9_tells_6 1000 (by decide +kernel) rfl ⟨Nat.zero_lt_succ _, trivial⟩ (fun f hf => match f, hf with
  | 0, _ => fun vs hv => (zbox_t r_X9_tells_6_0) vs hv
  | f + 1, h => absurd (show f + 1 < 1 from h) (Nat.not_lt.mpr (Nat.le_add_left 1 f)))
noncomputable def gs_X9_tells_6 : zMt := zgq true zUN 7 [.inr (.ref 292), .inl 2147483649, .inl 9223372043297226771, .inl 6442450943, .inl 8589934591] q_X9_tells_6 al_X9_tells_6
set_option maxRecDepth 100000 in
theorem cs_X9_tells_6 (d : Nat) (hG : zGood gh) : zC l G gh (d + 6) n_X9_tells gs_X9_tells_6 := zgq_ok zGood_ok (pcs := p_X9_tells) (by decide) rfl rfl (fun a ha => by simp only [al_X9_tells_6, List.mem_cons, List.not_mem_nil, or_false] at ha; rcases ha with rfl <;> decide +kernel) (fun gh hG => x_X9_tells_6 d hG) (by decide +kernel) hG
def q_X9_tells_7 : List (Nat × Nat) := [(292, zk102), (301, zk107), (310, zk103), (323, zk104), (324, zk104)]
noncomputable def al_X9_tells_7 : zAq := [(some (.inl 2147483548), [(292, zk105), (301, zk107), (310, zk103), (323, zk104), (324, zk106)])]
noncomputable def fm_X9_tells_7 : List zFm := [(0, [], (fun vs => [.inr (.ref 292), .inl 2147483649, .inl 9223372043297226771, .inl 9223372071214514175, .inl 8589934591]), (fun vs => zP q_X9_tells_7), (fun vs => Nat.sub (Nat.add 0 0) 0))]
def bf_X9_tells_7 : List Nat := []
theorem r_X9_tells_7_0 : zbox [] (fun vs => zFrun (zpost (zAlq al_X9_tells_7)) 1000 t_X9_tells fm_X9_tells_7 bf_X9_tells_7 (0, vs)) = true := by decide +kernel
set_option maxRecDepth 100000 in
theorem x_X9_tells_7 (d : Nat) (hG : zGood gh) : zS l G gh (d + 6) (zpost (zAlq al_X9_tells_7)) n_X9_tells (zn 0 p_X9_tells 0) (zwc (0, [.inr (.ref 292), .inl 2147483649, .inl 9223372043297226771, .inl 9223372071214514175, .inl 8589934591], zP q_X9_tells_7) 0) := zentry (tt_X9_tells d hG) fm_X9_tells_7 bf_X9_tells_7 1000 (by decide +kernel) rfl ⟨Nat.zero_lt_succ _, trivial⟩ (fun f hf => match f, hf with
  | 0, _ => fun vs hv => (zbox_t r_X9_tells_7_0) vs hv
  | f + 1, h => absurd (show f + 1 < 1 from h) (Nat.not_lt.mpr (Nat.le_add_left 1 f)))
noncomputable def gs_X9_tells_7 : zMt := zgq true zUN 7 [.inr (.ref 292), .inl 2147483649, .inl 9223372043297226771, .inl 9223372071214514175, .inl 8589934591] q_X9_tells_7 al_X9_tells_7
set_option maxRecDepth 100000 in
theorem cs_X9_tells_7 (d : Nat) (hG : zGood gh) : zC l G gh (d + 6) n_X9_tells gs_X9_tells_7 := zgq_ok zGood_ok (pcs := p_X9_tells) (by decide) rfl rfl (fun a ha => by simp only [al_X9_tells_7, List.mem_cons, List.not_mem_nil, or_false] at ha; rcases ha with rfl <;> decide +kernel) (fun gh hG => x_X9_tells_7 d hG) (by decide +kernel) hG
def q_X9_tells_8 : List (Nat × Nat) := [(292, zk102), (310, zk103), (323, zk104), (324, zk104)]
noncomputable def al_X9_tells_8 : zAq := [(some (.inl 2147483548), [(292, zk105), (310, zk103), (323, zk104), (324, zk106)])]
noncomputable def fm_X9_tells_8 : List zFm := [(0, [], (fun vs => [.inr (.ref 292), .inl 2147483649, .inl 6442450943, .inl 8589934591, .inl 8589934591]), (fun vs => zP q_X9_tells_8), (fun vs => Nat.sub (Nat.add 0 0) 0))]
def bf_X9_tells_8 : List Nat := []
theorem r_X9_tells_8_0 : zbox [] (fun vs => zFrun (zpost (zAlq al_X9_tells_8)) 1000 t_X9_tells fm_X9_tells_8 bf_X9_tells_8 (0, vs)) = true := by decide +kernel
set_option maxRecDepth 100000 in
theorem x_X9_tells_8 (d : Nat) (hG : zGood gh) : zS l G gh (d + 6) (zpost (zAlq al_X9_tells_8)) n_X9_tells (zn 0 p_X9_tells 0) (zwc (0, [.inr (.ref 292), .inl 2147483649, .inl 6442450943, .inl 8589934591, .inl 8589934591], zP q_X9_tells_8) 0) := zentry (tt_X9_tells d hG) fm_X9_tells_8 bf_X9_tells_8 1000 (by decide +kernel) rfl ⟨Nat.zero_lt_succ _, trivial⟩ (fun f hf => match f, hf with
  | 0, _ => fun vs hv => (zbox_t r_X9_tells_8_0) vs hv
  | f + 1, h => absurd (show f + 1 < 1 from h) (Nat.not_lt.mpr (Nat.le_add_left 1 f)))
noncomputable def gs_X9_tells_8 : zMt := zgq true zUN 7 [.inr (.ref 292), .inl 2147483649, .inl 6442450943, .inl 8589934591, .inl 8589934591] q_X9_tells_8 al_X9_tells_8
set_option maxRecDepth 100000 in
theorem cs_X9_tells_8 (d : Nat) (hG : zGood gh) : zC l G gh (d + 6) n_X9_tells gs_X9_tells_8 := zgq_ok zGood_ok (pcs := p_X9_tells) (by decide) rfl rfl (fun a ha => by simp only [al_X9_tells_8, List.mem_cons, List.not_mem_nil, or_false] at ha; rcases ha with rfl <;> decide +kernel) (fun gh hG => x_X9_tells_8 d hG) (by decide +kernel) hG
def q_X9_tells_9 : List (Nat × Nat) := [(292, zk102), (310, zk103), (323, zk104), (324, zk104)]
noncomputable def al_X9_tells_9 : zAq := [(some (.inl 2147483548), [(292, zk105), (310, zk103), (323, zk104), (324, zk106)])]
noncomputable def fm_X9_tells_9 : List zFm := [(0, [], (fun vs => [.inr (.ref 292), .inl 2147483649, .inl 9223372131344056319, .inl 8589934591, .inl 8589934591]), (fun vs => zP q_X9_tells_9), (fun vs => Nat.sub (Nat.add 0 0) 0))]
def bf_X9_tells_9 : List Nat := []
theorem r_X9_tells_9_0 : zbox [] (fun vs => zFrun (zpost (zAlq al_X9_tells_9)) 1000 t_X9_tells fm_X9_tells_9 bf_X9_tells_9 (0, vs)) = true := by decide +kernel
set_option maxRecDepth 100000 in
theorem x_X9_tells_9 (d : Nat) (hG : zGood gh) : zS l G gh (d + 6) (zpost (zAlq al_X9_tells_9)) n_X9_tells (zn 0 p_X9_tells 0) (zwc (0, [.inr (.ref 292), .inl 2147483649, .inl 9223372131344056319, .inl 8589934591, .inl 8589934591], zP q_X9_tells_9) 0) := zentry (tt_X9_tells d hG) fm_X9_tells_9 bf_X9_tells_9 1000 (by decide +kernel) rfl ⟨Nat.zero_lt_succ _, trivial⟩ (fun f hf => match f, hf with
  | 0, _ => fun vs hv => (zbox_t r_X9_tells_9_0) vs hv
  | f + 1, h => absurd (show f + 1 < 1 from h) (Nat.not_lt.mpr (Nat.le_add_left 1 f)))
noncomputable def gs_X9_tells_9 : zMt := zgq true zUN 7 [.inr (.ref 292), .inl 2147483649, .inl 9223372131344056319, .inl 8589934591, .inl 8589934591] q_X9_tells_9 al_X9_tells_9
set_option maxRecDepth 100000 in
theorem cs_X9_tells_9 (d : Nat) (hG : zGood gh) : zC l G gh (d + 6) n_X9_tells gs_X9_tells_9 := zgq_ok zGood_ok (pcs := p_X9_tells) (by decide) rfl rfl (fun a ha => by simp only [al_X9_tells_9, List.mem_cons, List.not_mem_nil, or_false] at ha; rcases ha with rfl <;> decide +kernel) (fun gh hG => x_X9_tells_9 d hG) (by decide +kernel) hG
def q_X9_tells_10 : List (Nat × Nat) := [(292, zk102), (301, zk107), (302, zk111), (303, zk111), (310, zk103), (321, zk3), (322, zk116), (323, zk104), (324, zk104)]
noncomputable def al_X9_tells_10 : zAq := [(some (.inl 9223371613800497251), [(292, zk105), (301, zk107), (302, zk111), (303, zk111), (310, zk103), (321, zk4), (322, zk117), (323, zk104), (324, zk106)])]
noncomputable def fm_X9_tells_10 : List zFm := [(0, [], (fun vs => [.inr (.ref 292), .inl 2147483650, .inl 9223372043297226771, .inl 9223372043297226757, .inl 8589934591]), (fun vs => zP q_X9_tells_10), (fun vs => Nat.sub (Nat.add 0 0) 0))]
def bf_X9_tells_10 : List Nat := []
theorem r_X9_tells_10_0 : zbox [] (fun vs => zFrun (zpost (zAlq al_X9_tells_10)) 1000 t_X9_tells fm_X9_tells_10 bf_X9_tells_10 (0, vs)) = true := by decide +kernel
set_option maxRecDepth 100000 in
theorem x_X9_tells_10 (d : Nat) (hG : zGood gh) : zS l G gh (d + 6) (zpost (zAlq al_X9_tells_10)) n_X9_tells (zn 0 p_X9_tells 0) (zwc (0, [.inr (.ref 292), .inl 2147483650, .inl 9223372043297226771, .inl 9223372043297226757, .inl 8589934591], zP q_X9_tells_10) 0) := zentry (tt_X9_tells d hG) fm_X9_tells_10 bf_X9_tells_10 1000 (by decide +kernel) rfl ⟨Nat.zero_lt_succ _, trivial⟩ (fun f hf => match f, hf with
  | 0, _ => fun vs hv => (zbox_t r_X9_tells_10_0) vs hv
  | f + 1, h => absurd (show f + 1 < 1 from h) (Nat.not_lt.mpr (Nat.le_add_left 1 f)))
noncomputable def gs_X9_tells_10 : zMt := zgq true zUN 7 [.inr (.ref 292), .inl 2147483650, .inl 9223372043297226771, .inl 9223372043297226757, .inl 8589934591] q_X9_tells_10 al_X9_tells_10
set_option maxRecDepth 100000 in
theorem cs_X9_tells_10 (d : Nat) (hG : zGood gh) : zC l G gh (d + 6) n_X9_tells gs_X9_tells_10 := zgq_ok zGood_ok (pcs := p_X9_tells) (by decide) rfl rfl (fun a ha => by simp only [al_X9_tells_10, List.mem_cons, List.not_mem_nil, or_false] at ha; rcases ha with rfl <;> decide +kernel) (fun gh hG => x_X9_tells_10 d hG) (by decide +kernel) hG
def q_X9_tells_11 : List (Nat × Nat) := [(292, zk102), (301, zk107), (310, zk103), (323, zk104), (324, zk104)]
noncomputable def al_X9_tells_11 : zAq := [(some (.inl 2147483548), [(292, zk105), (301, zk107), (310, zk103), (323, zk104), (324, zk106)])]
noncomputable def fm_X9_tells_11 : List zFm := [(0, [], (fun vs => [.inr (.ref 292), .inl 2147483650, .inl 9223372043297226771, .inl 6442450943, .inl 8589934591]), (fun vs => zP q_X9_tells_11), (fun vs => Nat.sub (Nat.add 0 0) 0))]
def bf_X9_tells_11 : List Nat := []
theorem r_X9_tells_11_0 : zbox [] (fun vs => zFrun (zpost (zAlq al_X9_tells_11)) 1000 t_X9_tells fm_X9_tells_11 bf_X9_tells_11 (0, vs)) = true := by decide +kernel
set_option maxRecDepth 100000 in
theorem x_X9_tells_11 (d : Nat) (hG : zGood gh) : zS l G gh (d + 6) (zpost (zAlq al_X9_tells_11)) n_X9_tells (zn 0 p_X9_tells 0) (zwc (0, [.inr (.ref 292), .inl 2147483650, .inl 9223372043297226771, .inl 6442450943, .inl 8589934591], zP q_X9_tells_11) 0) := zentry (tt_X9_tells d hG) fm_X9_tells_11 bf_X9_tells_11 1000 (by decide +kernel) rfl ⟨Nat.zero_lt_succ _, trivial⟩ (fun f hf => match f, hf with
  | 0, _ => fun vs hv => (zbox_t r_X9_tells_11_0) vs hv
  | f + 1, h => absurd (show f + 1 < 1 from h) (Nat.not_lt.mpr (Nat.le_add_left 1 f)))
noncomputable def gs_X9_tells_11 : zMt := zgq true zUN 7 [.inr (.ref 292), .inl 2147483650, .inl 9223372043297226771, .inl 6442450943, .inl 8589934591] q_X9_tells_11 al_X9_tells_11
set_option maxRecDepth 100000 in
theorem cs_X9_tells_11 (d : Nat) (hG : zGood gh) : zC l G gh (d + 6) n_X9_tells gs_X9_tells_11 := zgq_ok zGood_ok (pcs := p_X9_tells) (by decide) rfl rfl (fun a ha => by simp only [al_X9_tells_11, List.mem_cons, List.not_mem_nil, or_false] at ha; rcases ha with rfl <;> decide +kernel) (fun gh hG => x_X9_tells_11 d hG) (by decide +kernel) hG
def q_X9_tells_12 : List (Nat × Nat) := [(292, zk102), (301, zk107), (310, zk103), (323, zk104), (324, zk104)]
noncomputable def al_X9_tells_12 : zAq := [(some (.inl 2147483548), [(292, zk105), (301, zk107), (310, zk103), (323, zk104), (324, zk106)])]
noncomputable def fm_X9_tells_12 : List zFm := [(0, [], (fun vs => [.inr (.ref 292), .inl 2147483650, .inl 9223372043297226771, .inl 9223372071214514175, .inl 8589934591]), (fun vs => zP q_X9_tells_12), (fun vs => Nat.sub (Nat.add 0 0) 0))]
def bf_X9_tells_12 : List Nat := []
theorem r_X9_tells_12_0 : zbox [] (fun vs => zFrun (zpost (zAlq al_X9_tells_12)) 1000 t_X9_tells fm_X9_tells_12 bf_X9_tells_12 (0, vs)) = true := by decide +kernel
set_option maxRecDepth 100000 in
theorem x_X9_tells_12 (d : Nat) (hG : zGood gh) : zS l G gh (d + 6) (zpost (zAlq al_X9_tells_12)) n_X9_tells (zn 0 p_X9_tells 0) (zwc (0, [.inr (.ref 292), .inl 2147483650, .inl 9223372043297226771, .inl 9223372071214514175, .inl 8589934591], zP q_X9_tells_12) 0) := zentry (tt_X9_tells d hG) fm_X9_tells_12 bf_X9_tells_12 1000 (by decide +kernel) rfl ⟨Nat.zero_lt_succ _, trivial⟩ (fun f hf => match f, hf with
  | 0, _ => fun vs hv => (zbox_t r_X9_tells_12_0) vs hv
  | f + 1, h => absurd (show f + 1 < 1 from h) (Nat.not_lt.mpr (Nat.le_add_left 1 f)))
noncomputable def gs_X9_tells_12 : zMt := zgq true zUN 7 [.inr (.ref 292), .inl 2147483650, .inl 9223372043297226771, .inl 9223372071214514175, .inl 8589934591] q_X9_tells_12 al_X9_tells_12
set_option maxRecDepth 100000 in
theorem cs_X9_tells_12 (d : Nat) (hG : zGood gh) : zC l G gh (d + 6) n_X9_tells gs_X9_tells_12 := zgq_ok zGood_ok (pcs := p_X9_tells) (by decide) rfl rfl (fun a ha => by simp only [al_X9_tells_12, List.mem_cons, List.not_mem_nil, or_false] at ha; rcases ha with rfl <;> decide +kernel) (fun gh hG => x_X9_tells_12 d hG) (by decide +kernel) hG
def q_X9_tells_13 : List (Nat × Nat) := [(292, zk102), (310, zk103), (323, zk104), (324, zk104)]
noncomputable def al_X9_tells_13 : zAq := [(some (.inl 2147483548), [(292, zk105), (310, zk103), (323, zk104), (324, zk106)])]
noncomputable def fm_X9_tells_13 : List zFm := [(0, [], (fun vs => [.inr (.ref 292), .inl 2147483650, .inl 6442450943, .inl 8589934591, .inl 8589934591]), (fun vs => zP q_X9_tells_13), (fun vs => Nat.sub (Nat.add 0 0) 0))]
def bf_X9_tells_13 : List Nat := []
theorem r_X9_tells_13_0 : zbox [] (fun vs => zFrun (zpost (zAlq al_X9_tells_13)) 1000 t_X9_tells fm_X9_tells_13 bf_X9_tells_13 (0, vs)) = true := by decide +kernel
set_option maxRecDepth 100000 in
theorem x_X9_tells_13 (d : Nat) (hG : zGood gh) : zS l G gh (d + 6) (zpost (zAlq al_X9_tells_13)) n_X9_tells (zn 0 p_X9_tells 0) (zwc (0, [.inr (.ref 292), .inl 2147483650, .inl 6442450943, .inl 8589934591, .inl 8589934591], zP q_X9_tells_13) 0) := zentry (tt_X9_tells d hG) fm_X9_tells_13 bf_X9_tells_13 1000 (by decide +kernel) rfl ⟨Nat.zero_lt_succ _, trivial⟩ (fun f hf => match f, hf with
  | 0, _ => fun vs hv => (zbox_t r_X9_tells_13_0) vs hv
  | f + 1, h => absurd (show f + 1 < 1 from h) (Nat.not_lt.mpr (Nat.le_add_left 1 f)))
noncomputable def gs_X9_tells_13 : zMt := zgq true zUN 7 [.inr (.ref 292), .inl 2147483650, .inl 6442450943, .inl 8589934591, .inl 8589934591] q_X9_tells_13 al_X9_tells_13
set_option maxRecDepth 100000 in
theorem cs_X9_tells_13 (d : Nat) (hG : zGood gh) : zC l G gh (d + 6) n_X9_tells gs_X9_tells_13 := zgq_ok zGood_ok (pcs := p_X9_tells) (by decide) rfl rfl (fun a ha => by simp only [al_X9_tells_13, List.mem_cons, List.not_mem_nil, or_false] at ha; rcases ha with rfl <;> decide +kernel) (fun gh hG => x_X9_tells_13 d hG) (by decide +kernel) hG
def q_X9_tells_14 : List (Nat × Nat) := [(292, zk102), (310, zk103), (323, zk104), (324, zk104)]
noncomputable def al_X9_tells_14 : zAq := [(some (.inl 2147483548), [(292, zk105), (310, zk103), (323, zk104), (324, zk106)])]
noncomputable def fm_X9_tells_14 : List zFm := [(0, [], (fun vs => [.inr (.ref 292), .inl 2147483650, .inl 9223372131344056319, .inl 8589934591, .inl 8589934591]), (fun vs => zP q_X9_tells_14), (fun vs => Nat.sub (Nat.add 0 0) 0))]
def bf_X9_tells_14 : List Nat := []
theorem r_X9_tells_14_0 : zbox [] (fun vs => zFrun (zpost (zAlq al_X9_tells_14)) 1000 t_X9_tells fm_X9_tells_14 bf_X9_tells_14 (0, vs)) = true := by decide +kernel
set_option maxRecDepth 100000 in
theorem x_X9_tells_14 (d : Nat) (hG : zGood gh) : zS l G gh (d + 6) (zpost (zAlq al_X9_tells_14)) n_X9_tells (zn 0 p_X9_tells 0) (zwc (0, [.inr (.ref 292), .inl 2147483650, .inl 9223372131344056319, .inl 8589934591, .inl 8589934591], zP q_X9_tells_14) 0) := zentry (tt_X9_tells d hG) fm_X9_tells_14 bf_X9_tells_14 1000 (by decide +kernel) rfl ⟨Nat.zero_lt_succ _, trivial⟩ (fun f hf => match f, hf with
  | 0, _ => fun vs hv => (zbox_t r_X9_tells_14_0) vs hv
  | f + 1, h => absurd (show f + 1 < 1 from h) (Nat.not_lt.mpr (Nat.le_add_left 1 f)))
noncomputable def gs_X9_tells_14 : zMt := zgq true zUN 7 [.inr (.ref 292), .inl 2147483650, .inl 9223372131344056319, .inl 8589934591, .inl 8589934591] q_X9_tells_14 al_X9_tells_14
set_option maxRecDepth 100000 in
theorem cs_X9_tells_14 (d : Nat) (hG : zGood gh) : zC l G gh (d + 6) n_X9_tells gs_X9_tells_14 := zgq_ok zGood_ok (pcs := p_X9_tells) (by decide) rfl rfl (fun a ha => by simp only [al_X9_tells_14, List.mem_cons, List.not_mem_nil, or_false] at ha; rcases ha with rfl <;> decide +kernel) (fun gh hG => x_X9_tells_14 d hG) (by decide +kernel) hG
def q_X9_tells_15 : List (Nat × Nat) := [(292, zk102), (301, zk107), (310, zk103), (321, zk3), (322, zk116), (323, zk104), (324, zk104)]
noncomputable def al_X9_tells_15 : zAq := [(some (.inl 9223371613800497251), [(292, zk105), (301, zk107), (310, zk103), (321, zk4), (322, zk117), (323, zk104), (324, zk106)])]
noncomputable def fm_X9_tells_15 : List zFm := [(0, [], (fun vs => [.inr (.ref 292), .inl 2147483651, .inl 9223372043297226771, .inl 9223372043297226757, .inl 8589934591]), (fun vs => zP q_X9_tells_15), (fun vs => Nat.sub (Nat.add 0 0) 0))]
def bf_X9_tells_15 : List Nat := []
theorem r_X9_tells_15_0 : zbox [] (fun vs => zFrun (zpost (zAlq al_X9_tells_15)) 1000 t_X9_tells fm_X9_tells_15 bf_X9_tells_15 (0, vs)) = true := by decide +kernel
set_option maxRecDepth 100000 in
theorem x_X9_tells_15 (d : Nat) (hG : zGood gh) : zS l G gh (d + 6) (zpost (zAlq al_X9_tells_15)) n_X9_tells (zn 0 p_X9_tells 0) (zwc (0, [.inr (.ref 292), .inl 2147483651, .inl 9223372043297226771, .inl 9223372043297226757, .inl 8589934591], zP q_X9_tells_15) 0) := zentry (tt_X9_tells d hG) fm_X9_tells_15 bf_X9_tells_15 1000 (by decide +kernel) rfl ⟨Nat.zero_lt_succ _, trivial⟩ (fun f hf => match f, hf with
  | 0, _ => fun vs hv => (zbox_t r_X9_tells_15_0) vs hv
  | f + 1, h => absurd (show f + 1 < 1 from h) (Nat.not_lt.mpr (Nat.le_add_left 1 f)))
noncomputable def gs_X9_tells_15 : zMt := zgq true zUN 7 [.inr (.ref 292), .inl 2147483651, .inl 9223372043297226771, .inl 9223372043297226757, .inl 8589934591] q_X9_tells_15 al_X9_tells_15
set_option maxRecDepth 100000 in
theorem cs_X9_tells_15 (d : Nat) (hG : zGood gh) : zC l G gh (d + 6) n_X9_tells gs_X9_tells_15 := zgq_ok zGood_ok (pcs := p_X9_tells) (by decide) rfl rfl (fun a ha => by simp only [al_X9_tells_15, List.mem_cons, List.not_mem_nil, or_false] at ha; rcases ha with rfl <;> decide +kernel) (fun gh hG => x_X9_tells_15 d hG) (by decide +kernel) hG
def q_X9_tells_16 : List (Nat × Nat) := [(292, zk102), (301, zk107), (310, zk103), (321, zk3), (322, zk116), (323, zk104), (324, zk104)]
noncomputable def al_X9_tells_16 : zAq := [(some (.inl 9223371613800497251), [(292, zk105), (301, zk107), (310, zk103), (321, zk4), (322, zk117), (323, zk104), (324, zk106)])]
noncomputable def fm_X9_tells_16 : List zFm := [(0, [], (fun vs => [.inr (.ref 292), .inl 2147483651, .inl 9223372043297226771, .inl 6442450943, .inl 8589934591]), (fun vs => zP q_X9_tells_16), (fun vs => Nat.sub (Nat.add 0 0) 0))]
def bf_X9_tells_16 : List Nat := []
theorem r_X9_tells_16_0 : zbox [] (fun vs => zFrun (zpost (zAlq al_X9_tells_16)) 1000 t_X9_tells fm_X9_tells_16 bf_X9_tells_16 (0, vs)) = true := by decide +kernel
set_option maxRecDepth 100000 in
theorem x_X9_tells_16 (d : Nat) (hG : zGood gh) : zS l G gh (d + 6) (zpost (zAlq al_X9_tells_16)) n_X9_tells (zn 0 p_X9_tells 0) (zwc (0, [.inr (.ref 292), .inl 2147483651, .inl 9223372043297226771, .inl 6442450943, .inl 8589934591], zP q_X9_tells_16) 0) := zentry (tt_X9_tells d hG) fm_X9_tells_16 bf_X9_tells_16 1000 (by decide +kernel) rfl ⟨Nat.zero_lt_succ _, trivial⟩ (fun f hf => match f, hf with
  | 0, _ => fun vs hv => (zbox_t r_X9_tells_16_0) vs hv
  | f + 1, h => absurd (show f + 1 < 1 from h) (Nat.not_lt.mpr (Nat.le_add_left 1 f)))
noncomputable def gs_X9_tells_16 : zMt := zgq true zUN 7 [.inr (.ref 292), .inl 2147483651, .inl 9223372043297226771, .inl 6442450943, .inl 8589934591] q_X9_tells_16 al_X9_tells_16
set_option maxRecDepth 100000 in
theorem cs_X9_tells_16 (d : Nat) (hG : zGood gh) : zC l G gh (d + 6) n_X9_tells gs_X9_tells_16 := zgq_ok zGood_ok (pcs := p_X9_tells) (by decide) rfl rfl (fun a ha => by simp only [al_X9_tells_16, List.mem_cons, List.not_mem_nil, or_false] at ha; rcases ha with rfl <;> decide +kernel) (fun gh hG => x_X9_tells_16 d hG) (by decide +kernel) hG
def q_X9_tells_17 : List (Nat × Nat) := [(292, zk102), (301, zk107), (310, zk103), (321, zk3), (322, zk116), (323, zk104), (324, zk104)]
noncomputable def al_X9_tells_17 : zAq := [(some (.inl 9223371613800497251), [(292, zk105), (301, zk107), (310, zk103), (321, zk4), (322, zk117), (323, zk104), (324, zk106)])]
noncomputable def fm_X9_tells_17 : List zFm := [(0, [], (fun vs => [.inr (.ref 292), .inl 2147483651, .inl 9223372043297226771, .inl 9223372071214514175, .inl 8589934591]), (fun vs => zP q_X9_tells_17), (fun vs => Nat.sub (Nat.add 0 0) 0))]
def bf_X9_tells_17 : List Nat := []
theorem r_X9_tells_17_0 : zbox [] (fun vs => zFrun (zpost (zAlq al_X9_tells_17)) 1000 t_X9_tells fm_X9_tells_17 bf_X9_tells_17 (0, vs)) = true := by decide +kernel
set_option maxRecDepth 100000 in
theorem x_X9_tells_17 (d : Nat) (hG : zGood gh) : zS l G gh (d + 6) (zpost (zAlq al_X9_tells_17)) n_X9_tells (zn 0 p_X9_tells 0) (zwc (0, [.inr (.ref 292), .inl 2147483651, .inl 9223372043297226771, .inl 9223372071214514175, .inl 8589934591], zP q_X9_tells_17) 0) := zentry (tt_X9_tells d hG) fm_X9_tells_17 bf_X9_tells_17 1000 (by decide +kernel) rfl ⟨Nat.zero_lt_succ _, trivial⟩ (fun f hf => match f, hf with
  | 0, _ => fun vs hv => (zbox_t r_X9_tells_17_0) vs hv
  | f + 1, h => absurd (show f + 1 < 1 from h) (Nat.not_lt.mpr (Nat.le_add_left 1 f)))
noncomputable def gs_X9_tells_17 : zMt := zgq true zUN 7 [.inr (.ref 292), .inl 2147483651, .inl 9223372043297226771, .inl 9223372071214514175, .inl 8589934591] q_X9_tells_17 al_X9_tells_17
set_option maxRecDepth 100000 in
theorem cs_X9_tells_17 (d : Nat) (hG : zGood gh) : zC l G gh (d + 6) n_X9_tells gs_X9_tells_17 := zgq_ok zGood_ok (pcs := p_X9_tells) (by decide) rfl rfl (fun a ha => by simp only [al_X9_tells_17, List.mem_cons, List.not_mem_nil, or_false] at ha; rcases ha with rfl <;> decide +kernel) (fun gh hG => x_X9_tells_17 d hG) (by decide +kernel) hG
def q_X9_tells_18 : List (Nat × Nat) := [(292, zk102), (310, zk103), (321, zk3), (322, zk116), (323, zk104), (324, zk104)]
noncomputable def al_X9_tells_18 : zAq := [(some (.inl 9223371613800497251), [(292, zk105), (310, zk103), (321, zk4), (322, zk117), (323, zk104), (324, zk106)])]
noncomputable def fm_X9_tells_18 : List zFm := [(0, [], (fun vs => [.inr (.ref 292), .inl 2147483651, .inl 6442450943, .inl 8589934591, .inl 8589934591]), (fun vs => zP q_X9_tells_18), (fun vs => Nat.sub (Nat.add 0 0) 0))]
def bf_X9_tells_18 : List Nat := []
theorem r_X9_tells_18_0 : zbox [] (fun vs => zFrun (zpost (zAlq al_X9_tells_18)) 1000 t_X9_tells fm_X9_tells_18 bf_X9_tells_18 (0, vs)) = true := by decide +kernel
set_option maxRecDepth 100000 in
theorem x_X9_tells_18 (d : Nat) (hG : zGood gh) : zS l G gh (d + 6) (zpost (zAlq al_X9_tells_18)) n_X9_tells (zn 0 p_X9_tells 0) (zwc (0, [.inr (.ref 292), .inl 2147483651, .inl 6442450943, .inl 8589934591, .inl 8589934591], zP q_X9_tells_18) 0) := zentry (tt_X9_tells d hG) fm_X9_tells_18 bf_X9_tells_18 1000 (by decide +kernel) rfl ⟨Nat.zero_lt_succ _, trivial⟩ (fun f hf => match f, hf with
  | 0, _ => fun vs hv => (zbox_t r_X9_tells_18_0) vs hv
  | f + 1, h => absurd (show f + 1 < 1 from h) (Nat.not_lt.mpr (Nat.le_add_left 1 f)))
noncomputable def gs_X9_tells_18 : zMt := zgq true zUN 7 [.inr (.ref 292), .inl 2147483651, .inl 6442450943, .inl 8589934591, .inl 8589934591] q_X9_tells_18 al_X9_tells_18
set_option maxRecDepth 100000 in
theorem cs_X9_tells_18 (d : Nat) (hG : zGood gh) : zC l G gh (d + 6) n_X9_tells gs_X9_tells_18 := zgq_ok zGood_ok (pcs := p_X9_tells) (by decide) rfl rfl (fun a ha => by simp only [al_X9_tells_18, List.mem_cons, List.not_mem_nil, or_false] at ha; rcases ha with rfl <;> decide +kernel) (fun gh hG => x_X9_tells_18 d hG) (by decide +kernel) hG
def q_X9_tells_19 : List (Nat × Nat) := [(292, zk102), (310, zk103), (321, zk3), (322, zk116), (323, zk104), (324, zk104)]
noncomputable def al_X9_tells_19 : zAq := [(some (.inl 9223371613800497251), [(292, zk105), (310, zk103), (321, zk4), (322, zk117), (323, zk104), (324, zk106)])]
noncomputable def fm_X9_tells_19 : List zFm := [(0, [], (fun vs => [.inr (.ref 292), .inl 2147483651, .inl 9223372131344056319, .inl 8589934591, .inl 8589934591]), (fun vs => zP q_X9_tells_19), (fun vs => Nat.sub (Nat.add 0 0) 0))]
def bf_X9_tells_19 : List Nat := []
theorem r_X9_tells_19_0 : zbox [] (fun vs => zFrun (zpost (zAlq al_X9_tells_19)) 1000 t_X9_tells fm_X9_tells_19 bf_X9_tells_19 (0, vs)) = true := by decide +kernel
set_option maxRecDepth 100000 in
theorem x_X9_tells_19 (d : Nat) (hG : zGood gh) : zS l G gh (d + 6) (zpost (zAlq al_X9_tells_19)) n_X9_tells (zn 0 p_X9_tells 0) (zwc (0, [.inr (.ref 292), .inl 2147483651, .inl 9223372131344056319, .inl 8589934591, .inl 8589934591], zP q_X9_tells_19) 0) := zentry (tt_X9_tells d hG) fm_X9_tells_19 bf_X9_tells_19 1000 (by decide +kernel) rfl ⟨Nat.zero_lt_succ _, trivial⟩ (fun f hf => match f, hf with
  | 0, _ => fun vs hv => (zbox_t r_X9_tells_19_0) vs hv
  | f + 1, h => absurd (show f + 1 < 1 from h) (Nat.not_lt.mpr (Nat.le_add_left 1 f)))
noncomputable def gs_X9_tells_19 : zMt := zgq true zUN 7 [.inr (.ref 292), .inl 2147483651, .inl 9223372131344056319, .inl 8589934591, .inl 8589934591] q_X9_tells_19 al_X9_tells_19
set_option maxRecDepth 100000 in
theorem cs_X9_tells_19 (d : Nat) (hG : zGood gh) : zC l G gh (d + 6) n_X9_tells gs_X9_tells_19 := zgq_ok zGood_ok (pcs := p_X9_tells) (by decide) rfl rfl (fun a ha => by simp only [al_X9_tells_19, List.mem_cons, List.not_mem_nil, or_false] at ha; rcases ha with rfl <;> decide +kernel) (fun gh hG => x_X9_tells_19 d hG) (by decide +kernel) hG
def q_X9_tells_20 : List (Nat × Nat) := [(292, zk102), (301, zk107), (310, zk103), (323, zk104), (324, zk104)]
noncomputable def al_X9_tells_20 : zAq := [(some (.inl 2147483548), [(292, zk105), (301, zk107), (310, zk103), (323, zk104), (324, zk106)])]
noncomputable def fm_X9_tells_20 : List zFm := [(0, [], (fun vs => [.inr (.ref 292), .inl 6442450943, .inl 8589934591, .inl 8589934591, .inl 8589934591]), (fun vs => zP q_X9_tells_20), (fun vs => Nat.sub (Nat.add 0 0) 0))]
def bf_X9_tells_20 : List Nat := []
theorem r_X9_tells_20_0 : zbox [] (fun vs => zFrun (zpost (zAlq al_X9_tells_20)) 1000 t_X9_tells fm_X9_tells_20 bf_X9_tells_20 (0, vs)) = true := by decide +kernel
set_option maxRecDepth 100000 in
theorem x_X9_tells_20 (d : Nat) (hG : zGood gh) : zS l G gh (d + 6) (zpost (zAlq al_X9_tells_20)) n_X9_tells (zn 0 p_X9_tells 0) (zwc (0, [.inr (.ref 292), .inl 6442450943, .inl 8589934591, .inl 8589934591, .inl 8589934591], zP q_X9_tells_20) 0) := zentry (tt_X9_tells d hG) fm_X9_tells_20 bf_X9_tells_20 1000 (by decide +kernel) rfl ⟨Nat.zero_lt_succ _, trivial⟩ (fun f hf => match f, hf with
  | 0, _ => fun vs hv => (zbox_t r_X9_tells_20_0) vs hv
  | f + 1, h => absurd (show f + 1 < 1 from h) (Nat.not_lt.mpr (Nat.le_add_left 1 f)))
noncomputable def gs_X9_tells_20 : zMt := zgq true zUN 7 [.inr (.ref 292), .inl 6442450943, .inl 8589934591, .inl 8589934591, .inl 8589934591] q_X9_tells_20 al_X9_tells_20
set_option maxRecDepth 100000 in
theorem cs_X9_tells_20 (d : Nat) (hG : zGood gh) : zC l G gh (d + 6) n_X9_tells gs_X9_tells_20 := zgq_ok zGood_ok (pcs := p_X9_tells) (by decide) rfl rfl (fun a ha => by simp only [al_X9_tells_20, List.mem_cons, List.not_mem_nil, or_false] at ha; rcases ha with rfl <;> decide +kernel) (fun gh hG => x_X9_tells_20 d hG) (by decide +kernel) hG
def q_X9_tells_21 : List (Nat × Nat) := [(292, zk102), (301, zk107), (310, zk103), (323, zk104), (324, zk104)]
noncomputable def al_X9_tells_21 : zAq := [(some (.inl 2147483548), [(292, zk105), (301, zk107), (310, zk103), (323, zk104), (324, zk106)])]
noncomputable def fm_X9_tells_21 : List zFm := [(0, [], (fun vs => [.inr (.ref 292), .inl 9223372062624579583, .inl 8589934591, .inl 8589934591, .inl 8589934591]), (fun vs => zP q_X9_tells_21), (fun vs => Nat.sub (Nat.add 0 0) 0))]
def bf_X9_tells_21 : List Nat := []
theorem r_X9_tells_21_0 : zbox [] (fun vs => zFrun (zpost (zAlq al_X9_tells_21)) 1000 t_X9_tells fm_X9_tells_21 bf_X9_tells_21 (0, vs)) = true := by decide +kernel
set_option maxRecDepth 100000 in
theorem x_X9_tells_21 (d : Nat) (hG : zGood gh) : zS l G gh (d + 6) (zpost (zAlq al_X9_tells_21)) n_X9_tells (zn 0 p_X9_tells 0) (zwc (0, [.inr (.ref 292), .inl 9223372062624579583, .inl 8589934591, .inl 8589934591, .inl 8589934591], zP q_X9_tells_21) 0) := zentry (tt_X9_tells d hG) fm_X9_tells_21 bf_X9_tells_21 1000 (by decide +kernel) rfl ⟨Nat.zero_lt_succ _, trivial⟩ (fun f hf => match f, hf with
  | 0, _ => fun vs hv => (zbox_t r_X9_tells_21_0) vs hv
  | f + 1, h => absurd (show f + 1 < 1 from h) (Nat.not_lt.mpr (Nat.le_add_left 1 f)))
noncomputable def gs_X9_tells_21 : zMt := zgq true zUN 7 [.inr (.ref 292), .inl 9223372062624579583, .inl 8589934591, .inl 8589934591, .inl 8589934591] q_X9_tells_21 al_X9_tells_21
set_option maxRecDepth 100000 in
theorem cs_X9_tells_21 (d : Nat) (hG : zGood gh) : zC l G gh (d + 6) n_X9_tells gs_X9_tells_21 := zgq_ok zGood_ok (pcs := p_X9_tells) (by decide) rfl rfl (fun a ha => by simp only [al_X9_tells_21, List.mem_cons, List.not_mem_nil, or_false] at ha; rcases ha with rfl <;> decide +kernel) (fun gh hG => x_X9_tells_21 d hG) (by decide +kernel) hG
noncomputable def gs_X9_tells : zMt := (zor gs_X9_tells_0 (zor gs_X9_tells_1 (zor gs_X9_tells_2 (zor gs_X9_tells_3 (zor gs_X9_tells_4 (zor gs_X9_tells_5 (zor gs_X9_tells_6 (zor gs_X9_tells_7 (zor gs_X9_tells_8 (zor gs_X9_tells_9 (zor gs_X9_tells_10 (zor gs_X9_tells_11 (zor gs_X9_tells_12 (zor gs_X9_tells_13 (zor gs_X9_tells_14 (zor gs_X9_tells_15 (zor gs_X9_tells_16 (zor gs_X9_tells_17 (zor gs_X9_tells_18 (zor gs_X9_tells_19 (zor gs_X9_tells_20 gs_X9_tells_21)))))))))))))))))))))
theorem cs_X9_tells (d : Nat) (hG : zGood gh) : zC l G gh (d + 6) n_X9_tells gs_X9_tells := (zor_ok (cs_X9_tells_0 d hG) (zor_ok (cs_X9_tells_1 d hG) (zor_ok (cs_X9_tells_2 d hG) (zor_ok (cs_X9_tells_3 d hG) (zor_ok (cs_X9_tells_4 d hG) (zor_ok (cs_X9_tells_5 d hG) (zor_ok (cs_X9_tells_6 d hG) (zor_ok (cs_X9_tells_7 d hG) (zor_ok (cs_X9_tells_8 d hG) (zor_ok (cs_X9_tells_9 d hG) (zor_ok (cs_X9_tells_10 d hG) (zor_ok (cs_X9_tells_11 d hG) (zor_ok (cs_X9_tells_12 d hG) (zor_ok (cs_X9_tells_13 d hG) (zor_ok (cs_X9_tells_14 d hG) (zor_ok (cs_X9_tells_15 d hG) (zor_ok (cs_X9_tells_16 d hG) (zor_ok (cs_X9_tells_17 d hG) (zor_ok (cs_X9_tells_18 d hG) (zor_ok (cs_X9_tells_19 d hG) (zor_ok (cs_X9_tells_20 d hG) (cs_X9_tells_21 d hG))))))))))))))))))))))
def p_X9_seenAt : List Nat := [0, 12, 15, 31, 38, 42]
noncomputable def b_X9_seenAt_0 : zBl := fun jp K => oAld 0 <| oIld 1 <| oIld 2 <| oIld 3 <| oIld 4 <| oCv 9 4 gs_X9_isSeen <| oIf zne zeq (jp 2) (jp 1)
theorem s_X9_seenAt_0 (d : Nat) (hG : zGood gh) : zPb l G gh (d + 6) n_X9_seenAt p_X9_seenAt 0 b_X9_seenAt_0 := fun K jp hj =>
    z_aload_n (n := 0) (i := 0) (zd (i := .aload_n 0) (n := 1) (by decide +kernel)) rfl <|
    z_iload_n (n := 1) (i := 1) (zd (i := .iload_n 1) (n := 1) (by decide +kernel)) rfl <|
    z_iload_n (n := 2) (i := 2) (zd (i := .iload_n 2) (n := 1) (by decide +kernel)) rfl <|
    z_iload_n (n := 3) (i := 3) (zd (i := .iload_n 3) (n := 1) (by decide +kernel)) rfl <|
    z_iload (i := 4) (zd (i := .iload 4) (n := 2) (by decide +kernel)) <|
    z_callV (idx := 337) (ci := 9) (N := n_X9_isSeen) (zd (i := .invokevirtual 337) (n := 3) (by decide +kernel)) to_X9_isSeen g1453 g1455 g69 (by decide +kernel) rfl rfl rfl (cs_X9_isSeen (l := l) (G := G) (gh := gh) (d) hG) <|
    z_if_ne (off := 6) (tgt := 15) (zd (i := .ifCond .ne (6)) (n := 3) (by decide +kernel)) (by decide +kernel) (zj (hj 2) (by decide +kernel)) (zj (hj 1) (by decide +kernel))
noncomputable def b_X9_seenAt_1 : zBl := fun jp K => oInt 2147483646 <| oIret K
theorem s_X9_seenAt_1 (d : Nat) (hG : zGood gh) : zPb l G gh (d + 6) n_X9_seenAt p_X9_seenAt 12 b_X9_seenAt_1 := fun K jp hj =>
    z_bipush (n := -2) (zd (i := .bipush (-2)) (n := 2) (by decide +kernel)) (by decide +kernel) <|
    z_iret (zd (i := .ireturn) (n := 1) (by decide +kernel)) rfl
noncomputable def b_X9_seenAt_2 : zBl := fun jp K => oAld 0 <| oIld 1 <| oIld 2 <| oIld 3 <| oIld 4 <| oCv 9 4 gs_X9_movedBy <| oIst 5 <| oNLL 2 1 zgeN zltN zn1_ge zn2_ge zn1_lt zn2_lt (jp 4) (jp 3)
theorem s_X9_seenAt_2 (d : Nat) (hG : zGood gh) : zPb l G gh (d + 6) n_X9_seenAt p_X9_seenAt 15 b_X9_seenAt_2 := fun K jp hj =>
    z_aload_n (n := 0) (i := 0) (zd (i := .aload_n 0) (n := 1) (by decide +kernel)) rfl <|
    z_iload_n (n := 1) (i := 1) (zd (i := .iload_n 1) (n := 1) (by decide +kernel)) rfl <|
    z_iload_n (n := 2) (i := 2) (zd (i := .iload_n 2) (n := 1) (by decide +kernel)) rfl <|
    z_iload_n (n := 3) (i := 3) (zd (i := .iload_n 3) (n := 1) (by decide +kernel)) rfl <|
    z_iload (i := 4) (zd (i := .iload 4) (n := 2) (by decide +kernel)) <|
    z_callV (idx := 341) (ci := 9) (N := n_X9_movedBy) (zd (i := .invokevirtual 341) (n := 3) (by decide +kernel)) to_X9_movedBy g1510 g1512 g78 (by decide +kernel) rfl rfl rfl (cs_X9_movedBy (l := l) (G := G) (gh := gh) (d) hG) <|
    z_istore (i := 5) (zd (i := .istore 5) (n := 2) (by decide +kernel)) (by decide +kernel) <|
    z_nLL_ge (i := 2) (j := 1) (a1 := 1) (a2 := 1) (off := 10) (tgt := 38) (zLd_n (n := 2) (i := 2) (zd (i := .iload_n 2) (n := 1) (by decide +kernel)) rfl) (zLd_n (n := 1) (i := 1) (zd (i := .iload_n 1) (n := 1) (by decide +kernel)) rfl) (zd (i := .if_icmp .ge (10)) (n := 3) (by decide +kernel)) (by decide +kernel) (zj (hj 4) (by decide +kernel)) (zj (hj 3) (by decide +kernel))
noncomputable def b_X9_seenAt_3 : zBl := fun jp K => oIld 2 <| oIld 5 <| oB2 zsub <| jp 5
theorem s_X9_seenAt_3 (d : Nat) (hG : zGood gh) : zPb l G gh (d + 6) n_X9_seenAt p_X9_seenAt 31 b_X9_seenAt_3 := fun K jp hj =>
    z_iload_n (n := 2) (i := 2) (zd (i := .iload_n 2) (n := 1) (by decide +kernel)) rfl <|
    z_iload (i := 5) (zd (i := .iload 5) (n := 2) (by decide +kernel)) <|
    z_isub (zd (i := .isub) (n := 1) (by decide +kernel)) <|
    z_goto (off := 7) (tgt := 42) (zd (i := .goto (7)) (n := 3) (by decide +kernel)) (by decide +kernel) (zj (hj 5) (by decide +kernel))
noncomputable def b_X9_seenAt_4 : zBl := fun jp K => oIld 2 <| oIld 5 <| oB2 zadd <| jp 5
theorem s_X9_seenAt_4 (d : Nat) (hG : zGood gh) : zPb l G gh (d + 6) n_X9_seenAt p_X9_seenAt 38 b_X9_seenAt_4 := fun K jp hj =>
    z_iload_n (n := 2) (i := 2) (zd (i := .iload_n 2) (n := 1) (by decide +kernel)) rfl <|
    z_iload (i := 5) (zd (i := .iload 5) (n := 2) (by decide +kernel)) <|
    z_iadd (zd (i := .iadd) (n := 1) (by decide +kernel)) <|
    (zj (hj 5) (by decide +kernel))
noncomputable def b_X9_seenAt_5 : zBl := fun jp K => oInt 2147483648 <| oInt 2147483667 <| oCs 3 f_X9_held <| oIret K
theorem s_X9_seenAt_5 (d : Nat) (hG : zGood gh) : zPb l G gh (d + 6) n_X9_seenAt p_X9_seenAt 42 b_X9_seenAt_5 := fun K jp hj =>
    z_iconst (n := 0) (zd (i := .iconst (0)) (n := 1) (by decide +kernel)) (by decide +kernel) <|
    z_bipush (n := 19) (zd (i := .bipush (19)) (n := 2) (by decide +kernel)) (by decide +kernel) <|
    z_callS (idx := 324) (N := n_X9_held) (zd (i := .invokestatic 324) (n := 3) (by decide +kernel)) to_X9_held g1477 g1478 rfl rfl (c_X9_held (l := l) (G := G) (gh := gh) (d + 4)) <|
    z_iret (zd (i := .ireturn) (n := 1) (by decide +kernel)) rfl
noncomputable def t_X9_seenAt : List zBl := [b_X9_seenAt_0, b_X9_seenAt_1, b_X9_seenAt_2, b_X9_seenAt_3, b_X9_seenAt_4, b_X9_seenAt_5]
theorem tt_X9_seenAt (d : Nat) (hG : zGood gh) : zT (zPb l G gh (d + 6) n_X9_seenAt p_X9_seenAt) t_X9_seenAt p_X9_seenAt := ⟨s_X9_seenAt_0 d hG, s_X9_seenAt_1 d hG, s_X9_seenAt_2 d hG, s_X9_seenAt_3 d hG, s_X9_seenAt_4 d hG, s_X9_seenAt_5 d hG, trivial⟩
def q_X9_seenAt_0 : List (Nat × Nat) := [(292, zk102), (321, zk3), (322, zk116)]
noncomputable def al_X9_seenAt_0 : zAq := [(some (.inl 9223372034707292179), [(292, zk105), (321, zk4), (322, zk117)])]
noncomputable def fm_X9_seenAt_0 : List zFm := [(0, [], (fun vs => [.inr (.ref 292), .inl 8589934591, .inl 8589934591, .inl 8589934591, .inl 8589934591]), (fun vs => zP q_X9_seenAt_0), (fun vs => Nat.sub (Nat.add 0 0) 0))]
def bf_X9_seenAt_0 : List Nat := []
theorem r_X9_seenAt_0_0 : zbox [] (fun vs => zFrun (zpost (zAlq al_X9_seenAt_0)) 1000 t_X9_seenAt fm_X9_seenAt_0 bf_X9_seenAt_0 (0, vs)) = true := by decide +kernel
set_option maxRecDepth 100000 in
theorem x_X9_seenAt_0 (d : Nat) (hG : zGood gh) : zS l G gh (d + 6) (zpost (zAlq al_X9_seenAt_0)) n_X9_seenAt (zn 0 p_X9_seenAt 0) (zwc (0, [.inr (.ref 292), .inl 8589934591, .inl 8589934591, .inl 8589934591, .inl 8589934591], zP q_X9_seenAt_0) 0) := zentry (tt_X9_seenAt d hG) fm_X9_seenAt_0 bf_X9_seenAt_0 1000 (by decide +kernel) rfl ⟨Nat.zero_lt_succ _, trivial⟩ (fun f hf => match f, hf with
  | 0, _ => fun vs hv => (zbox_t r_X9_seenAt_0_0) vs hv
  | f + 1, h => absurd (show f + 1 < 1 from h) (Nat.not_lt.mpr (Nat.le_add_left 1 f)))
noncomputable def gs_X9_seenAt_0 : zMt := zgq true zUN 6 [.inr (.ref 292), .inl 8589934591, .inl 8589934591, .inl 8589934591, .inl 8589934591] q_X9_seenAt_0 al_X9_seenAt_0
set_option maxRecDepth 100000 in
theorem cs_X9_seenAt_0 (d : Nat) (hG : zGood gh) : zC l G gh (d + 6) n_X9_seenAt gs_X9_seenAt_0 := zgq_ok zGood_ok (pcs := p_X9_seenAt) (by decide) rfl rfl (fun a ha => by simp only [al_X9_seenAt_0, List.mem_cons, List.not_mem_nil, or_false] at ha; rcases ha with rfl <;> decide +kernel) (fun gh hG => x_X9_seenAt_0 d hG) (by decide +kernel) hG
noncomputable def gs_X9_seenAt : zMt := gs_X9_seenAt_0
theorem cs_X9_seenAt (d : Nat) (hG : zGood gh) : zC l G gh (d + 6) n_X9_seenAt gs_X9_seenAt := (cs_X9_seenAt_0 d hG)
def p_X9_isWatched : List Nat := [0, 3, 17, 34, 36, 42]
noncomputable def b_X9_isWatched_0 : zBl := fun jp K => oInt 2147483648 <| oIst 4 <| jp 1
theorem s_X9_isWatched_0 (d : Nat) (hG : zGood gh) : zPb l G gh (d + 6) n_X9_isWatched p_X9_isWatched 0 b_X9_isWatched_0 := fun K jp hj =>
    z_iconst (n := 0) (zd (i := .iconst (0)) (n := 1) (by decide +kernel)) (by decide +kernel) <|
    z_istore (i := 4) (zd (i := .istore 4) (n := 2) (by decide +kernel)) (by decide +kernel) <|
    (zj (hj 1) (by decide +kernel))
noncomputable def b_X9_isWatched_1 : zBl := fun jp K => oIld 4 <| oAld 0 <| oGetR 9 25 <| oAld 0 <| oGetI 9 18 <| oXald 10 <| oIc zge zlt (jp 5) (jp 2)
theorem s_X9_isWatched_1 (d : Nat) (hG : zGood gh) : zPb l G gh (d + 6) n_X9_isWatched p_X9_isWatched 3 b_X9_isWatched_1 := fun K jp hj =>
    z_iload (i := 4) (zd (i := .iload 4) (n := 2) (by decide +kernel)) <|
    z_aload_n (n := 0) (i := 0) (zd (i := .aload_n 0) (n := 1) (by decide +kernel)) rfl <|
    z_getR (ci := 9) (j := 25) (idx := 52) (zd (i := .getfield 52) (n := 3) (by decide +kernel)) (by decide +kernel) (by decide +kernel) rfl g1153 <|
    z_aload_n (n := 0) (i := 0) (zd (i := .aload_n 0) (n := 1) (by decide +kernel)) rfl <|
    z_getI (ci := 9) (j := 18) (idx := 230) (zd (i := .getfield 230) (n := 3) (by decide +kernel)) (by decide +kernel) (by decide +kernel) rfl g1146 <|
    z_iald (zd (i := .iaload) (n := 1) (by decide +kernel)) <|
    z_icmp_ge (off := 28) (tgt := 42) (zd (i := .if_icmp .ge (28)) (n := 3) (by decide +kernel)) (by decide +kernel) (zj (hj 5) (by decide +kernel)) (zj (hj 2) (by decide +kernel))
noncomputable def b_X9_isWatched_2 : zBl := fun jp K => oAld 0 <| oAld 0 <| oGetR 9 48 <| oIld 4 <| oXald 10 <| oIld 1 <| oIld 2 <| oIld 3 <| oCv 9 4 gs_X9_isSeen <| oIf zeq zne (jp 4) (jp 3)
theorem s_X9_isWatched_2 (d : Nat) (hG : zGood gh) : zPb l G gh (d + 6) n_X9_isWatched p_X9_isWatched 17 b_X9_isWatched_2 := fun K jp hj =>
    z_aload_n (n := 0) (i := 0) (zd (i := .aload_n 0) (n := 1) (by decide +kernel)) rfl <|
    z_aload_n (n := 0) (i := 0) (zd (i := .aload_n 0) (n := 1) (by decide +kernel)) rfl <|
    z_getR (ci := 9) (j := 48) (idx := 110) (zd (i := .getfield 110) (n := 3) (by decide +kernel)) (by decide +kernel) (by decide +kernel) rfl g1176 <|
    z_iload (i := 4) (zd (i := .iload 4) (n := 2) (by decide +kernel)) <|
    z_iald (zd (i := .iaload) (n := 1) (by decide +kernel)) <|
    z_iload_n (n := 1) (i := 1) (zd (i := .iload_n 1) (n := 1) (by decide +kernel)) rfl <|
    z_iload_n (n := 2) (i := 2) (zd (i := .iload_n 2) (n := 1) (by decide +kernel)) rfl <|
    z_iload_n (n := 3) (i := 3) (zd (i := .iload_n 3) (n := 1) (by decide +kernel)) rfl <|
    z_callV (idx := 337) (ci := 9) (N := n_X9_isSeen) (zd (i := .invokevirtual 337) (n := 3) (by decide +kernel)) to_X9_isSeen g1453 g1455 g69 (by decide +kernel) rfl rfl rfl (cs_X9_isSeen (l := l) (G := G) (gh := gh) (d) hG) <|
    z_if_eq (off := 5) (tgt := 36) (zd (i := .ifCond .eq (5)) (n := 3) (by decide +kernel)) (by decide +kernel) (zj (hj 4) (by decide +kernel)) (zj (hj 3) (by decide +kernel))
noncomputable def b_X9_isWatched_3 : zBl := fun jp K => oInt 2147483649 <| oZret K
theorem s_X9_isWatched_3 (d : Nat) (hG : zGood gh) : zPb l G gh (d + 6) n_X9_isWatched p_X9_isWatched 34 b_X9_isWatched_3 := fun K jp hj =>
    z_iconst (n := 1) (zd (i := .iconst (1)) (n := 1) (by decide +kernel)) (by decide +kernel) <|
    z_zret (zd (i := .ireturn) (n := 1) (by decide +kernel)) rfl
noncomputable def b_X9_isWatched_4 : zBl := fun jp K => oInc 4 2147483649 <| jp 1
theorem s_X9_isWatched_4 (d : Nat) (hG : zGood gh) : zPb l G gh (d + 6) n_X9_isWatched p_X9_isWatched 36 b_X9_isWatched_4 := fun K jp hj =>
    z_iinc (i := 4) (n := 1) (zd (i := .iinc 4 (1)) (n := 3) (by decide +kernel)) (by decide +kernel) (by decide +kernel) <|
    z_goto (off := -36) (tgt := 3) (zd (i := .goto (-36)) (n := 3) (by decide +kernel)) (by decide +kernel) (zj (hj 1) (by decide +kernel))
noncomputable def b_X9_isWatched_5 : zBl := fun jp K => oInt 2147483648 <| oZret K
theorem s_X9_isWatched_5 (d : Nat) (hG : zGood gh) : zPb l G gh (d + 6) n_X9_isWatched p_X9_isWatched 42 b_X9_isWatched_5 := fun K jp hj =>
    z_iconst (n := 0) (zd (i := .iconst (0)) (n := 1) (by decide +kernel)) (by decide +kernel) <|
    z_zret (zd (i := .ireturn) (n := 1) (by decide +kernel)) rfl
noncomputable def t_X9_isWatched : List zBl := [b_X9_isWatched_0, b_X9_isWatched_1, b_X9_isWatched_2, b_X9_isWatched_3, b_X9_isWatched_4, b_X9_isWatched_5]
theorem tt_X9_isWatched (d : Nat) (hG : zGood gh) : zT (zPb l G gh (d + 6) n_X9_isWatched p_X9_isWatched) t_X9_isWatched p_X9_isWatched := ⟨s_X9_isWatched_0 d hG, s_X9_isWatched_1 d hG, s_X9_isWatched_2 d hG, s_X9_isWatched_3 d hG, s_X9_isWatched_4 d hG, s_X9_isWatched_5 d hG, trivial⟩
def q_X9_isWatched_0 : List (Nat × Nat) := [(292, zk102), (304, zk107), (321, zk3), (322, zk116), (323, zk104)]
noncomputable def al_X9_isWatched_0 : zAq := [(some (.inl 9223372043297226753), [(292, zk105), (304, zk107), (321, zk4), (322, zk117), (323, zk104)])]
def mq_X9_isWatched_0_1 : List (Nat × Nat) := [(292, zk105), (304, zk107), (321, zk4), (322, zk117), (323, zk104)]
noncomputable def fm_X9_isWatched_0 : List zFm := [(0, [], (fun vs => [.inr (.ref 292), .inl 8589934591, .inl 8589934591, .inl 8589934591]), (fun vs => zP q_X9_isWatched_0), (fun vs => Nat.sub (Nat.add 7 0) 0)),
  (1, [(4, 2147483648, 2147483654)], (fun vs => [.inr (.ref 292), .inl 8589934591, .inl 8589934591, .inl 8589934591, .inl (zn 0 vs 0)]), (fun vs => zP mq_X9_isWatched_0_1), (fun vs => Nat.sub (Nat.add 2147483654 0) (Nat.add 0 (Nat.mul 1 (zn 0 vs 0)))))]
def bf_X9_isWatched_0 : List Nat := [0, 2]
theorem r_X9_isWatched_0_0 : zbox [] (fun vs => zFrun (zpost (zAlq al_X9_isWatched_0)) 1000 t_X9_isWatched fm_X9_isWatched_0 bf_X9_isWatched_0 (0, vs)) = true := by decide +kernel
theorem r_X9_isWatched_0_1 : zbox [(4, 2147483648, 2147483654)] (fun vs => zFrun (zpost (zAlq al_X9_isWatched_0)) 1000 t_X9_isWatched fm_X9_isWatched_0 bf_X9_isWatched_0 (1, vs)) = true := by decide +kernel
set_option maxRecDepth 100000 in
theorem x_X9_isWatched_0 (d : Nat) (hG : zGood gh) : zS l G gh (d + 6) (zpost (zAlq al_X9_isWatched_0)) n_X9_isWatched (zn 0 p_X9_isWatched 0) (zwc (0, [.inr (.ref 292), .inl 8589934591, .inl 8589934591, .inl 8589934591], zP q_X9_isWatched_0) 0) := zentry (tt_X9_isWatched d hG) fm_X9_isWatched_0 bf_X9_isWatched_0 1000 (by decide +kernel) rfl ⟨Nat.zero_lt_succ _, trivial⟩ (fun f hf => match f, hf with
  | 0, _ => fun vs hv => (zbox_t r_X9_isWatched_0_0) vs hv
  | 1, _ => fun vs hv => (zbox_t r_X9_isWatched_0_1) vs hv
  | f + 2, h => absurd (show f + 2 < 2 from h) (Nat.not_lt.mpr (Nat.le_add_left 2 f)))
noncomputable def gs_X9_isWatched_0 : zMt := zgq true zUN 5 [.inr (.ref 292), .inl 8589934591, .inl 8589934591, .inl 8589934591] q_X9_isWatched_0 al_X9_isWatched_0
set_option maxRecDepth 100000 in
theorem cs_X9_isWatched_0 (d : Nat) (hG : zGood gh) : zC l G gh (d + 6) n_X9_isWatched gs_X9_isWatched_0 := zgq_ok zGood_ok (pcs := p_X9_isWatched) (by decide) rfl rfl (fun a ha => by simp only [al_X9_isWatched_0, List.mem_cons, List.not_mem_nil, or_false] at ha; rcases ha with rfl <;> decide +kernel) (fun gh hG => x_X9_isWatched_0 d hG) (by decide +kernel) hG
noncomputable def gs_X9_isWatched : zMt := gs_X9_isWatched_0
theorem cs_X9_isWatched (d : Nat) (hG : zGood gh) : zC l G gh (d + 6) n_X9_isWatched gs_X9_isWatched := (cs_X9_isWatched_0 d hG)
def p_X9_thing : List Nat := [0, 8, 10, 48, 63, 78, 81, 95, 117, 124, 130, 132, 135, 149, 167, 174, 180, 182]
noncomputable def b_X9_thing_0 : zBl := fun jp K => oAld 0 <| oIld 1 <| oCv 9 1 f_X9_isThing <| oIf zne zeq (jp 2) (jp 1)
theorem s_X9_thing_0 (d : Nat) (hG : zGood gh) : zPb l G gh (d + 7) n_X9_thing p_X9_thing 0 b_X9_thing_0 := fun K jp hj =>
    z_aload_n (n := 0) (i := 0) (zd (i := .aload_n 0) (n := 1) (by decide +kernel)) rfl <|
    z_iload_n (n := 1) (i := 1) (zd (i := .iload_n 1) (n := 1) (by decide +kernel)) rfl <|
    z_callV (idx := 372) (ci := 9) (N := n_X9_isThing) (zd (i := .invokevirtual 372) (n := 3) (by decide +kernel)) to_X9_isThing g1438 g1440 g66 (by decide +kernel) rfl rfl rfl (c_X9_isThing (l := l) (G := G) (gh := gh) (d + 4)) <|
    z_if_ne (off := 5) (tgt := 10) (zd (i := .ifCond .ne (5)) (n := 3) (by decide +kernel)) (by decide +kernel) (zj (hj 2) (by decide +kernel)) (zj (hj 1) (by decide +kernel))
noncomputable def b_X9_thing_1 : zBl := fun jp K => oInt 2147483647 <| oIret K
theorem s_X9_thing_1 (d : Nat) (hG : zGood gh) : zPb l G gh (d + 7) n_X9_thing p_X9_thing 8 b_X9_thing_1 := fun K jp hj =>
    z_iconst (n := -1) (zd (i := .iconst (-1)) (n := 1) (by decide +kernel)) (by decide +kernel) <|
    z_iret (zd (i := .ireturn) (n := 1) (by decide +kernel)) rfl
noncomputable def b_X9_thing_2 : zBl := fun jp K => oAld 0 <| oCv 9 0 gs_X9_copies <| oInt 2147483648 <| oIst 3 <| oIld 2 <| oTab 2147483648 [jp 3, jp 4, jp 5, jp 11] (jp 17)
theorem s_X9_thing_2 (d : Nat) (hG : zGood gh) : zPb l G gh (d + 7) n_X9_thing p_X9_thing 10 b_X9_thing_2 := fun K jp hj =>
    z_aload_n (n := 0) (i := 0) (zd (i := .aload_n 0) (n := 1) (by decide +kernel)) rfl <|
    z_callV (idx := 375) (ci := 9) (N := n_X9_copies) (zd (i := .invokevirtual 375) (n := 3) (by decide +kernel)) to_X9_copies g1445 g1447 g67 (by decide +kernel) rfl rfl rfl (cs_X9_copies (l := l) (G := G) (gh := gh) (d + 5)) <|
    z_iconst (n := 0) (zd (i := .iconst (0)) (n := 1) (by decide +kernel)) (by decide +kernel) <|
    z_istore_n (n := 3) (i := 3) (zd (i := .istore_n 3) (n := 1) (by decide +kernel)) rfl (by decide +kernel) <|
    z_iload_n (n := 2) (i := 2) (zd (i := .iload_n 2) (n := 1) (by decide +kernel)) rfl <|
    z_table (v := 2147483648) (df := 182) (len := 31) (x := 0) (dflt := 165) (lo := 0) (hi := 3) (offs := #[31, 46, 61, 115]) (tgts := [48, 63, 78, 132]) (zd (i := .tableswitch (165) (0) (3) #[31, 46, 61, 115]) (n := 31) (by decide +kernel)) (by decide +kernel) rfl rfl (by decide +kernel) (by decide +kernel) (by decide +kernel) ⟨(zj (hj 3) (by decide +kernel)), (zj (hj 4) (by decide +kernel)), (zj (hj 5) (by decide +kernel)), (zj (hj 11) (by decide +kernel)), trivial⟩ (zj (hj 17) (by decide +kernel))
noncomputable def b_X9_thing_3 : zBl := fun jp K => oAld 0 <| oGetR 9 23 <| oInt 2147483654 <| oAld 0 <| oGetI 9 18 <| oB2 zimul <| oIld 1 <| oB2 zadd <| oXald 10 <| oIret K
theorem s_X9_thing_3 (d : Nat) (hG : zGood gh) : zPb l G gh (d + 7) n_X9_thing p_X9_thing 48 b_X9_thing_3 := fun K jp hj =>
    z_aload_n (n := 0) (i := 0) (zd (i := .aload_n 0) (n := 1) (by decide +kernel)) rfl <|
    z_getR (ci := 9) (j := 23) (idx := 46) (zd (i := .getfield 46) (n := 3) (by decide +kernel)) (by decide +kernel) (by decide +kernel) rfl g1151 <|
    z_bipush (n := 6) (zd (i := .bipush (6)) (n := 2) (by decide +kernel)) (by decide +kernel) <|
    z_aload_n (n := 0) (i := 0) (zd (i := .aload_n 0) (n := 1) (by decide +kernel)) rfl <|
    z_getI (ci := 9) (j := 18) (idx := 230) (zd (i := .getfield 230) (n := 3) (by decide +kernel)) (by decide +kernel) (by decide +kernel) rfl g1146 <|
    z_imul (zd (i := .imul) (n := 1) (by decide +kernel)) <|
    z_iload_n (n := 1) (i := 1) (zd (i := .iload_n 1) (n := 1) (by decide +kernel)) rfl <|
    z_iadd (zd (i := .iadd) (n := 1) (by decide +kernel)) <|
    z_iald (zd (i := .iaload) (n := 1) (by decide +kernel)) <|
    z_iret (zd (i := .ireturn) (n := 1) (by decide +kernel)) rfl
noncomputable def b_X9_thing_4 : zBl := fun jp K => oAld 0 <| oGetR 9 24 <| oInt 2147483654 <| oAld 0 <| oGetI 9 18 <| oB2 zimul <| oIld 1 <| oB2 zadd <| oXald 10 <| oIret K
theorem s_X9_thing_4 (d : Nat) (hG : zGood gh) : zPb l G gh (d + 7) n_X9_thing p_X9_thing 63 b_X9_thing_4 := fun K jp hj =>
    z_aload_n (n := 0) (i := 0) (zd (i := .aload_n 0) (n := 1) (by decide +kernel)) rfl <|
    z_getR (ci := 9) (j := 24) (idx := 49) (zd (i := .getfield 49) (n := 3) (by decide +kernel)) (by decide +kernel) (by decide +kernel) rfl g1152 <|
    z_bipush (n := 6) (zd (i := .bipush (6)) (n := 2) (by decide +kernel)) (by decide +kernel) <|
    z_aload_n (n := 0) (i := 0) (zd (i := .aload_n 0) (n := 1) (by decide +kernel)) rfl <|
    z_getI (ci := 9) (j := 18) (idx := 230) (zd (i := .getfield 230) (n := 3) (by decide +kernel)) (by decide +kernel) (by decide +kernel) rfl g1146 <|
    z_imul (zd (i := .imul) (n := 1) (by decide +kernel)) <|
    z_iload_n (n := 1) (i := 1) (zd (i := .iload_n 1) (n := 1) (by decide +kernel)) rfl <|
    z_iadd (zd (i := .iadd) (n := 1) (by decide +kernel)) <|
    z_iald (zd (i := .iaload) (n := 1) (by decide +kernel)) <|
    z_iret (zd (i := .ireturn) (n := 1) (by decide +kernel)) rfl
noncomputable def b_X9_thing_5 : zBl := fun jp K => oInt 2147483648 <| oIst 4 <| jp 6
theorem s_X9_thing_5 (d : Nat) (hG : zGood gh) : zPb l G gh (d + 7) n_X9_thing p_X9_thing 78 b_X9_thing_5 := fun K jp hj =>
    z_iconst (n := 0) (zd (i := .iconst (0)) (n := 1) (by decide +kernel)) (by decide +kernel) <|
    z_istore (i := 4) (zd (i := .istore 4) (n := 2) (by decide +kernel)) (by decide +kernel) <|
    (zj (hj 6) (by decide +kernel))
noncomputable def b_X9_thing_6 : zBl := fun jp K => oIld 4 <| oAld 0 <| oGetR 9 25 <| oAld 0 <| oGetI 9 18 <| oXald 10 <| oIc zge zlt (jp 10) (jp 7)
theorem s_X9_thing_6 (d : Nat) (hG : zGood gh) : zPb l G gh (d + 7) n_X9_thing p_X9_thing 81 b_X9_thing_6 := fun K jp hj =>
    z_iload (i := 4) (zd (i := .iload 4) (n := 2) (by decide +kernel)) <|
    z_aload_n (n := 0) (i := 0) (zd (i := .aload_n 0) (n := 1) (by decide +kernel)) rfl <|
    z_getR (ci := 9) (j := 25) (idx := 52) (zd (i := .getfield 52) (n := 3) (by decide +kernel)) (by decide +kernel) (by decide +kernel) rfl g1153 <|
    z_aload_n (n := 0) (i := 0) (zd (i := .aload_n 0) (n := 1) (by decide +kernel)) rfl <|
    z_getI (ci := 9) (j := 18) (idx := 230) (zd (i := .getfield 230) (n := 3) (by decide +kernel)) (by decide +kernel) (by decide +kernel) rfl g1146 <|
    z_iald (zd (i := .iaload) (n := 1) (by decide +kernel)) <|
    z_icmp_ge (off := 38) (tgt := 130) (zd (i := .if_icmp .ge (38)) (n := 3) (by decide +kernel)) (by decide +kernel) (zj (hj 10) (by decide +kernel)) (zj (hj 7) (by decide +kernel))
noncomputable def b_X9_thing_7 : zBl := fun jp K => oAld 0 <| oAld 0 <| oGetR 9 49 <| oIld 4 <| oXald 10 <| oIld 1 <| oAld 0 <| oGetR 9 49 <| oInt 2147483744 <| oXald 10 <| oCv 9 3 gs_X9_sees <| oIf zeq zne (jp 9) (jp 8)
theorem s_X9_thing_7 (d : Nat) (hG : zGood gh) : zPb l G gh (d + 7) n_X9_thing p_X9_thing 95 b_X9_thing_7 := fun K jp hj =>
    z_aload_n (n := 0) (i := 0) (zd (i := .aload_n 0) (n := 1) (by decide +kernel)) rfl <|
    z_aload_n (n := 0) (i := 0) (zd (i := .aload_n 0) (n := 1) (by decide +kernel)) rfl <|
    z_getR (ci := 9) (j := 49) (idx := 113) (zd (i := .getfield 113) (n := 3) (by decide +kernel)) (by decide +kernel) (by decide +kernel) rfl g1177 <|
    z_iload (i := 4) (zd (i := .iload 4) (n := 2) (by decide +kernel)) <|
    z_iald (zd (i := .iaload) (n := 1) (by decide +kernel)) <|
    z_iload_n (n := 1) (i := 1) (zd (i := .iload_n 1) (n := 1) (by decide +kernel)) rfl <|
    z_aload_n (n := 0) (i := 0) (zd (i := .aload_n 0) (n := 1) (by decide +kernel)) rfl <|
    z_getR (ci := 9) (j := 49) (idx := 113) (zd (i := .getfield 113) (n := 3) (by decide +kernel)) (by decide +kernel) (by decide +kernel) rfl g1177 <|
    z_bipush (n := 96) (zd (i := .bipush (96)) (n := 2) (by decide +kernel)) (by decide +kernel) <|
    z_iald (zd (i := .iaload) (n := 1) (by decide +kernel)) <|
    z_callV (idx := 352) (ci := 9) (N := n_X9_sees) (zd (i := .invokevirtual 352) (n := 3) (by decide +kernel)) to_X9_sees g1449 g1451 g68 (by decide +kernel) rfl rfl rfl (cs_X9_sees (l := l) (G := G) (gh := gh) (d) hG) <|
    z_if_eq (off := 10) (tgt := 124) (zd (i := .ifCond .eq (10)) (n := 3) (by decide +kernel)) (by decide +kernel) (zj (hj 9) (by decide +kernel)) (zj (hj 8) (by decide +kernel))
noncomputable def b_X9_thing_8 : zBl := fun jp K => oIld 3 <| oInt 2147483649 <| oIld 4 <| oB2 zishl <| oB2 zior <| oIst 3 <| jp 9
theorem s_X9_thing_8 (d : Nat) (hG : zGood gh) : zPb l G gh (d + 7) n_X9_thing p_X9_thing 117 b_X9_thing_8 := fun K jp hj =>
    z_iload_n (n := 3) (i := 3) (zd (i := .iload_n 3) (n := 1) (by decide +kernel)) rfl <|
    z_iconst (n := 1) (zd (i := .iconst (1)) (n := 1) (by decide +kernel)) (by decide +kernel) <|
    z_iload (i := 4) (zd (i := .iload 4) (n := 2) (by decide +kernel)) <|
    z_ishl (zd (i := .ishl) (n := 1) (by decide +kernel)) <|
    z_ior (zd (i := .ior) (n := 1) (by decide +kernel)) <|
    z_istore_n (n := 3) (i := 3) (zd (i := .istore_n 3) (n := 1) (by decide +kernel)) rfl (by decide +kernel) <|
    (zj (hj 9) (by decide +kernel))
noncomputable def b_X9_thing_9 : zBl := fun jp K => oInc 4 2147483649 <| jp 6
theorem s_X9_thing_9 (d : Nat) (hG : zGood gh) : zPb l G gh (d + 7) n_X9_thing p_X9_thing 124 b_X9_thing_9 := fun K jp hj =>
    z_iinc (i := 4) (n := 1) (zd (i := .iinc 4 (1)) (n := 3) (by decide +kernel)) (by decide +kernel) (by decide +kernel) <|
    z_goto (off := -46) (tgt := 81) (zd (i := .goto (-46)) (n := 3) (by decide +kernel)) (by decide +kernel) (zj (hj 6) (by decide +kernel))
noncomputable def b_X9_thing_10 : zBl := fun jp K => oIld 3 <| oIret K
theorem s_X9_thing_10 (d : Nat) (hG : zGood gh) : zPb l G gh (d + 7) n_X9_thing p_X9_thing 130 b_X9_thing_10 := fun K jp hj =>
    z_iload_n (n := 3) (i := 3) (zd (i := .iload_n 3) (n := 1) (by decide +kernel)) rfl <|
    z_iret (zd (i := .ireturn) (n := 1) (by decide +kernel)) rfl
noncomputable def b_X9_thing_11 : zBl := fun jp K => oInt 2147483648 <| oIst 4 <| jp 12
theorem s_X9_thing_11 (d : Nat) (hG : zGood gh) : zPb l G gh (d + 7) n_X9_thing p_X9_thing 132 b_X9_thing_11 := fun K jp hj =>
    z_iconst (n := 0) (zd (i := .iconst (0)) (n := 1) (by decide +kernel)) (by decide +kernel) <|
    z_istore (i := 4) (zd (i := .istore 4) (n := 2) (by decide +kernel)) (by decide +kernel) <|
    (zj (hj 12) (by decide +kernel))
noncomputable def b_X9_thing_12 : zBl := fun jp K => oIld 4 <| oAld 0 <| oGetR 9 25 <| oAld 0 <| oGetI 9 18 <| oXald 10 <| oIc zge zlt (jp 16) (jp 13)
theorem s_X9_thing_12 (d : Nat) (hG : zGood gh) : zPb l G gh (d + 7) n_X9_thing p_X9_thing 135 b_X9_thing_12 := fun K jp hj =>
    z_iload (i := 4) (zd (i := .iload 4) (n := 2) (by decide +kernel)) <|
    z_aload_n (n := 0) (i := 0) (zd (i := .aload_n 0) (n := 1) (by decide +kernel)) rfl <|
    z_getR (ci := 9) (j := 25) (idx := 52) (zd (i := .getfield 52) (n := 3) (by decide +kernel)) (by decide +kernel) (by decide +kernel) rfl g1153 <|
    z_aload_n (n := 0) (i := 0) (zd (i := .aload_n 0) (n := 1) (by decide +kernel)) rfl <|
    z_getI (ci := 9) (j := 18) (idx := 230) (zd (i := .getfield 230) (n := 3) (by decide +kernel)) (by decide +kernel) (by decide +kernel) rfl g1146 <|
    z_iald (zd (i := .iaload) (n := 1) (by decide +kernel)) <|
    z_icmp_ge (off := 34) (tgt := 180) (zd (i := .if_icmp .ge (34)) (n := 3) (by decide +kernel)) (by decide +kernel) (zj (hj 16) (by decide +kernel)) (zj (hj 13) (by decide +kernel))
noncomputable def b_X9_thing_13 : zBl := fun jp K => oAld 0 <| oGetR 9 49 <| oInt 2147483672 <| oInt 2147483654 <| oIld 4 <| oB2 zimul <| oB2 zadd <| oIld 1 <| oB2 zadd <| oXald 10 <| oIf zle zgt (jp 15) (jp 14)
theorem s_X9_thing_13 (d : Nat) (hG : zGood gh) : zPb l G gh (d + 7) n_X9_thing p_X9_thing 149 b_X9_thing_13 := fun K jp hj =>
    z_aload_n (n := 0) (i := 0) (zd (i := .aload_n 0) (n := 1) (by decide +kernel)) rfl <|
    z_getR (ci := 9) (j := 49) (idx := 113) (zd (i := .getfield 113) (n := 3) (by decide +kernel)) (by decide +kernel) (by decide +kernel) rfl g1177 <|
    z_bipush (n := 24) (zd (i := .bipush (24)) (n := 2) (by decide +kernel)) (by decide +kernel) <|
    z_bipush (n := 6) (zd (i := .bipush (6)) (n := 2) (by decide +kernel)) (by decide +kernel) <|
    z_iload (i := 4) (zd (i := .iload 4) (n := 2) (by decide +kernel)) <|
    z_imul (zd (i := .imul) (n := 1) (by decide +kernel)) <|
    z_iadd (zd (i := .iadd) (n := 1) (by decide +kernel)) <|
    z_iload_n (n := 1) (i := 1) (zd (i := .iload_n 1) (n := 1) (by decide +kernel)) rfl <|
    z_iadd (zd (i := .iadd) (n := 1) (by decide +kernel)) <|
    z_iald (zd (i := .iaload) (n := 1) (by decide +kernel)) <|
    z_if_le (off := 10) (tgt := 174) (zd (i := .ifCond .le (10)) (n := 3) (by decide +kernel)) (by decide +kernel) (zj (hj 15) (by decide +kernel)) (zj (hj 14) (by decide +kernel))
noncomputable def b_X9_thing_14 : zBl := fun jp K => oIld 3 <| oInt 2147483649 <| oIld 4 <| oB2 zishl <| oB2 zior <| oIst 3 <| jp 15
theorem s_X9_thing_14 (d : Nat) (hG : zGood gh) : zPb l G gh (d + 7) n_X9_thing p_X9_thing 167 b_X9_thing_14 := fun K jp hj =>
    z_iload_n (n := 3) (i := 3) (zd (i := .iload_n 3) (n := 1) (by decide +kernel)) rfl <|
    z_iconst (n := 1) (zd (i := .iconst (1)) (n := 1) (by decide +kernel)) (by decide +kernel) <|
    z_iload (i := 4) (zd (i := .iload 4) (n := 2) (by decide +kernel)) <|
    z_ishl (zd (i := .ishl) (n := 1) (by decide +kernel)) <|
    z_ior (zd (i := .ior) (n := 1) (by decide +kernel)) <|
    z_istore_n (n := 3) (i := 3) (zd (i := .istore_n 3) (n := 1) (by decide +kernel)) rfl (by decide +kernel) <|
    (zj (hj 15) (by decide +kernel))
noncomputable def b_X9_thing_15 : zBl := fun jp K => oInc 4 2147483649 <| jp 12
theorem s_X9_thing_15 (d : Nat) (hG : zGood gh) : zPb l G gh (d + 7) n_X9_thing p_X9_thing 174 b_X9_thing_15 := fun K jp hj =>
    z_iinc (i := 4) (n := 1) (zd (i := .iinc 4 (1)) (n := 3) (by decide +kernel)) (by decide +kernel) (by decide +kernel) <|
    z_goto (off := -42) (tgt := 135) (zd (i := .goto (-42)) (n := 3) (by decide +kernel)) (by decide +kernel) (zj (hj 12) (by decide +kernel))
noncomputable def b_X9_thing_16 : zBl := fun jp K => oIld 3 <| oIret K
theorem s_X9_thing_16 (d : Nat) (hG : zGood gh) : zPb l G gh (d + 7) n_X9_thing p_X9_thing 180 b_X9_thing_16 := fun K jp hj =>
    z_iload_n (n := 3) (i := 3) (zd (i := .iload_n 3) (n := 1) (by decide +kernel)) rfl <|
    z_iret (zd (i := .ireturn) (n := 1) (by decide +kernel)) rfl
noncomputable def b_X9_thing_17 : zBl := fun jp K => oInt 2147483647 <| oIret K
theorem s_X9_thing_17 (d : Nat) (hG : zGood gh) : zPb l G gh (d + 7) n_X9_thing p_X9_thing 182 b_X9_thing_17 := fun K jp hj =>
    z_iconst (n := -1) (zd (i := .iconst (-1)) (n := 1) (by decide +kernel)) (by decide +kernel) <|
    z_iret (zd (i := .ireturn) (n := 1) (by decide +kernel)) rfl
noncomputable def t_X9_thing : List zBl := [b_X9_thing_0, b_X9_thing_1, b_X9_thing_2, b_X9_thing_3, b_X9_thing_4, b_X9_thing_5, b_X9_thing_6, b_X9_thing_7, b_X9_thing_8, b_X9_thing_9, b_X9_thing_10, b_X9_thing_11, b_X9_thing_12, b_X9_thing_13, b_X9_thing_14, b_X9_thing_15, b_X9_thing_16, b_X9_thing_17]
theorem tt_X9_thing (d : Nat) (hG : zGood gh) : zT (zPb l G gh (d + 7) n_X9_thing p_X9_thing) t_X9_thing p_X9_thing := ⟨s_X9_thing_0 d hG, s_X9_thing_1 d hG, s_X9_thing_2 d hG, s_X9_thing_3 d hG, s_X9_thing_4 d hG, s_X9_thing_5 d hG, s_X9_thing_6 d hG, s_X9_thing_7 d hG, s_X9_thing_8 d hG, s_X9_thing_9 d hG, s_X9_thing_10 d hG, s_X9_thing_11 d hG, s_X9_thing_12 d hG, s_X9_thing_13 d hG, s_X9_thing_14 d hG, s_X9_thing_15 d hG, s_X9_thing_16 d hG, s_X9_thing_17 d hG, trivial⟩
def q_X9_thing_0 : List (Nat × Nat) := [(292, zk102), (301, zk107), (302, zk111), (303, zk111), (304, zk107), (310, zk103), (321, zk3), (322, zk116), (323, zk104), (324, zk104)]
noncomputable def al_X9_thing_0 : zAq := [(some (.inl 8589934591), [(292, zk105), (301, zk107), (302, zk111), (303, zk111), (304, zk107), (310, zk103), (321, zk4), (322, zk117), (323, zk104), (324, zk106)])]
def mq_X9_thing_0_1 : List (Nat × Nat) := [(292, zk105), (301, zk107), (302, zk111), (303, zk111), (304, zk107), (310, zk103), (321, zk4), (322, zk117), (323, zk104), (324, zk106)]
def mq_X9_thing_0_2 : List (Nat × Nat) := [(292, zk105), (301, zk107), (302, zk111), (303, zk111), (304, zk107), (310, zk103), (321, zk3), (322, zk116), (323, zk104), (324, zk106)]
noncomputable def fm_X9_thing_0 : List zFm := [(0, [], (fun vs => [.inr (.ref 292), .inl 9223372043297226757, .inl 8589934591]), (fun vs => zP q_X9_thing_0), (fun vs => Nat.sub (Nat.add 14 0) 0)),
  (6, [(4, 2147483648, 2147483654)], (fun vs => [.inr (.ref 292), .inl 9223372043297226757, .inl 8589934591, .inl 9223372043297226815, .inl (zn 0 vs 0)]), (fun vs => zP mq_X9_thing_0_1), (fun vs => Nat.sub (Nat.add 2147483661 0) (Nat.add 0 (Nat.mul 1 (zn 0 vs 0))))),
  (12, [(4, 2147483648, 2147483654)], (fun vs => [.inr (.ref 292), .inl 9223372043297226757, .inl 8589934591, .inl 9223372043297226815, .inl (zn 0 vs 0)]), (fun vs => zP mq_X9_thing_0_2), (fun vs => Nat.sub (Nat.add 2147483654 0) (Nat.add 0 (Nat.mul 1 (zn 0 vs 0)))))]
def bf_X9_thing_0 : List Nat := [0, 0, 0, 0, 0, 0, 2, 0, 0, 0, 0, 0, 3]
theorem r_X9_thing_0_0 : zbox [] (fun vs => zFrun (zpost (zAlq al_X9_thing_0)) 1000 t_X9_thing fm_X9_thing_0 bf_X9_thing_0 (0, vs)) = true := by decide +kernel
theorem r_X9_thing_0_1 : zbox [(4, 2147483648, 2147483654)] (fun vs => zFrun (zpost (zAlq al_X9_thing_0)) 1000 t_X9_thing fm_X9_thing_0 bf_X9_thing_0 (1, vs)) = true := by decide +kernel
theorem r_X9_thing_0_2 : zbox [(4, 2147483648, 2147483654)] (fun vs => zFrun (zpost (zAlq al_X9_thing_0)) 1000 t_X9_thing fm_X9_thing_0 bf_X9_thing_0 (2, vs)) = true := by decide +kernel
set_option maxRecDepth 100000 in
theorem x_X9_thing_0 (d : Nat) (hG : zGood gh) : zS l G gh (d + 7) (zpost (zAlq al_X9_thing_0)) n_X9_thing (zn 0 p_X9_thing 0) (zwc (0, [.inr (.ref 292), .inl 9223372043297226757, .inl 8589934591], zP q_X9_thing_0) 0) := zentry (tt_X9_thing d hG) fm_X9_thing_0 bf_X9_thing_0 1000 (by decide +kernel) rfl ⟨Nat.zero_lt_succ _, trivial⟩ (fun f hf => match f, hf with
  | 0, _ => fun vs hv => (zbox_t r_X9_thing_0_0) vs hv
  | 1, _ => fun vs hv => (zbox_t r_X9_thing_0_1) vs hv
  | 2, _ => fun vs hv => (zbox_t r_X9_thing_0_2) vs hv
  | f + 3, h => absurd (show f + 3 < 3 from h) (Nat.not_lt.mpr (Nat.le_add_left 3 f)))
noncomputable def gs_X9_thing_0 : zMt := zgq true zUN 5 [.inr (.ref 292), .inl 9223372043297226757, .inl 8589934591] q_X9_thing_0 al_X9_thing_0
set_option maxRecDepth 100000 in
theorem cs_X9_thing_0 (d : Nat) (hG : zGood gh) : zC l G gh (d + 7) n_X9_thing gs_X9_thing_0 := zgq_ok zGood_ok (pcs := p_X9_thing) (by decide) rfl rfl (fun a ha => by simp only [al_X9_thing_0, List.mem_cons, List.not_mem_nil, or_false] at ha; rcases ha with rfl <;> decide +kernel) (fun gh hG => x_X9_thing_0 d hG) (by decide +kernel) hG
def q_X9_thing_1 : List (Nat × Nat) := [(292, zk102), (301, zk107)]
noncomputable def al_X9_thing_1 : zAq := [(some (.inl 2147483647), [(292, zk102), (301, zk107)])]
noncomputable def fm_X9_thing_1 : List zFm := [(0, [], (fun vs => [.inr (.ref 292), .inl 6442450943, .inl 8589934591]), (fun vs => zP q_X9_thing_1), (fun vs => Nat.sub (Nat.add 0 0) 0))]
def bf_X9_thing_1 : List Nat := []
theorem r_X9_thing_1_0 : zbox [] (fun vs => zFrun (zpost (zAlq al_X9_thing_1)) 1000 t_X9_thing fm_X9_thing_1 bf_X9_thing_1 (0, vs)) = true := by decide +kernel
set_option maxRecDepth 100000 in
theorem x_X9_thing_1 (d : Nat) (hG : zGood gh) : zS l G gh (d + 7) (zpost (zAlq al_X9_thing_1)) n_X9_thing (zn 0 p_X9_thing 0) (zwc (0, [.inr (.ref 292), .inl 6442450943, .inl 8589934591], zP q_X9_thing_1) 0) := zentry (tt_X9_thing d hG) fm_X9_thing_1 bf_X9_thing_1 1000 (by decide +kernel) rfl ⟨Nat.zero_lt_succ _, trivial⟩ (fun f hf => match f, hf with
  | 0, _ => fun vs hv => (zbox_t r_X9_thing_1_0) vs hv
  | f + 1, h => absurd (show f + 1 < 1 from h) (Nat.not_lt.mpr (Nat.le_add_left 1 f)))
noncomputable def gs_X9_thing_1 : zMt := zgq true zUN 5 [.inr (.ref 292), .inl 6442450943, .inl 8589934591] q_X9_thing_1 al_X9_thing_1
set_option maxRecDepth 100000 in
theorem cs_X9_thing_1 (d : Nat) (hG : zGood gh) : zC l G gh (d + 7) n_X9_thing gs_X9_thing_1 := zgq_ok zGood_ok (pcs := p_X9_thing) (by decide) rfl rfl (fun a ha => by simp only [al_X9_thing_1, List.mem_cons, List.not_mem_nil, or_false] at ha; rcases ha with rfl <;> decide +kernel) (fun gh hG => x_X9_thing_1 d hG) (by decide +kernel) hG
def q_X9_thing_2 : List (Nat × Nat) := [(292, zk102), (301, zk107)]
noncomputable def al_X9_thing_2 : zAq := [(some (.inl 2147483647), [(292, zk102), (301, zk107)])]
noncomputable def fm_X9_thing_2 : List zFm := [(0, [], (fun vs => [.inr (.ref 292), .inl 9223372071214514175, .inl 8589934591]), (fun vs => zP q_X9_thing_2), (fun vs => Nat.sub (Nat.add 0 0) 0))]
def bf_X9_thing_2 : List Nat := []
theorem r_X9_thing_2_0 : zbox [] (fun vs => zFrun (zpost (zAlq al_X9_thing_2)) 1000 t_X9_thing fm_X9_thing_2 bf_X9_thing_2 (0, vs)) = true := by decide +kernel
set_option maxRecDepth 100000 in
theorem x_X9_thing_2 (d : Nat) (hG : zGood gh) : zS l G gh (d + 7) (zpost (zAlq al_X9_thing_2)) n_X9_thing (zn 0 p_X9_thing 0) (zwc (0, [.inr (.ref 292), .inl 9223372071214514175, .inl 8589934591], zP q_X9_thing_2) 0) := zentry (tt_X9_thing d hG) fm_X9_thing_2 bf_X9_thing_2 1000 (by decide +kernel) rfl ⟨Nat.zero_lt_succ _, trivial⟩ (fun f hf => match f, hf with
  | 0, _ => fun vs hv => (zbox_t r_X9_thing_2_0) vs hv
  | f + 1, h => absurd (show f + 1 < 1 from h) (Nat.not_lt.mpr (Nat.le_add_left 1 f)))
noncomputable def gs_X9_thing_2 : zMt := zgq true zUN 5 [.inr (.ref 292), .inl 9223372071214514175, .inl 8589934591] q_X9_thing_2 al_X9_thing_2
set_option maxRecDepth 100000 in
theorem cs_X9_thing_2 (d : Nat) (hG : zGood gh) : zC l G gh (d + 7) n_X9_thing gs_X9_thing_2 := zgq_ok zGood_ok (pcs := p_X9_thing) (by decide) rfl rfl (fun a ha => by simp only [al_X9_thing_2, List.mem_cons, List.not_mem_nil, or_false] at ha; rcases ha with rfl <;> decide +kernel) (fun gh hG => x_X9_thing_2 d hG) (by decide +kernel) hG
noncomputable def gs_X9_thing : zMt := (zor gs_X9_thing_0 (zor gs_X9_thing_1 gs_X9_thing_2))
theorem cs_X9_thing (d : Nat) (hG : zGood gh) : zC l G gh (d + 7) n_X9_thing gs_X9_thing := (zor_ok (cs_X9_thing_0 d hG) (zor_ok (cs_X9_thing_1 d hG) (cs_X9_thing_2 d hG)))
def p_X9_seesBits : List Nat := [0, 4, 17, 38, 44, 50]
noncomputable def b_X9_seesBits_0 : zBl := fun jp K => oInt 2147483648 <| oIst 2 <| oInt 2147483648 <| oIst 3 <| jp 1
theorem s_X9_seesBits_0 (d : Nat) (hG : zGood gh) : zPb l G gh (d + 7) n_X9_seesBits p_X9_seesBits 0 b_X9_seesBits_0 := fun K jp hj =>
    z_iconst (n := 0) (zd (i := .iconst (0)) (n := 1) (by decide +kernel)) (by decide +kernel) <|
    z_istore_n (n := 2) (i := 2) (zd (i := .istore_n 2) (n := 1) (by decide +kernel)) rfl (by decide +kernel) <|
    z_iconst (n := 0) (zd (i := .iconst (0)) (n := 1) (by decide +kernel)) (by decide +kernel) <|
    z_istore_n (n := 3) (i := 3) (zd (i := .istore_n 3) (n := 1) (by decide +kernel)) rfl (by decide +kernel) <|
    (zj (hj 1) (by decide +kernel))
noncomputable def b_X9_seesBits_1 : zBl := fun jp K => oIld 3 <| oAld 0 <| oGetR 9 22 <| oAld 0 <| oGetI 9 18 <| oXald 10 <| oIc zge zlt (jp 5) (jp 2)
theorem s_X9_seesBits_1 (d : Nat) (hG : zGood gh) : zPb l G gh (d + 7) n_X9_seesBits p_X9_seesBits 4 b_X9_seesBits_1 := fun K jp hj =>
    z_iload_n (n := 3) (i := 3) (zd (i := .iload_n 3) (n := 1) (by decide +kernel)) rfl <|
    z_aload_n (n := 0) (i := 0) (zd (i := .aload_n 0) (n := 1) (by decide +kernel)) rfl <|
    z_getR (ci := 9) (j := 22) (idx := 43) (zd (i := .getfield 43) (n := 3) (by decide +kernel)) (by decide +kernel) (by decide +kernel) rfl g1150 <|
    z_aload_n (n := 0) (i := 0) (zd (i := .aload_n 0) (n := 1) (by decide +kernel)) rfl <|
    z_getI (ci := 9) (j := 18) (idx := 230) (zd (i := .getfield 230) (n := 3) (by decide +kernel)) (by decide +kernel) (by decide +kernel) rfl g1146 <|
    z_iald (zd (i := .iaload) (n := 1) (by decide +kernel)) <|
    z_icmp_ge (off := 36) (tgt := 50) (zd (i := .if_icmp .ge (36)) (n := 3) (by decide +kernel)) (by decide +kernel) (zj (hj 5) (by decide +kernel)) (zj (hj 2) (by decide +kernel))
noncomputable def b_X9_seesBits_2 : zBl := fun jp K => oAld 0 <| oAld 0 <| oGetR 9 49 <| oIld 1 <| oXald 10 <| oIld 3 <| oAld 0 <| oGetR 9 49 <| oInt 2147483744 <| oXald 10 <| oCv 9 3 gs_X9_sees <| oIf zeq zne (jp 4) (jp 3)
theorem s_X9_seesBits_2 (d : Nat) (hG : zGood gh) : zPb l G gh (d + 7) n_X9_seesBits p_X9_seesBits 17 b_X9_seesBits_2 := fun K jp hj =>
    z_aload_n (n := 0) (i := 0) (zd (i := .aload_n 0) (n := 1) (by decide +kernel)) rfl <|
    z_aload_n (n := 0) (i := 0) (zd (i := .aload_n 0) (n := 1) (by decide +kernel)) rfl <|
    z_getR (ci := 9) (j := 49) (idx := 113) (zd (i := .getfield 113) (n := 3) (by decide +kernel)) (by decide +kernel) (by decide +kernel) rfl g1177 <|
    z_iload_n (n := 1) (i := 1) (zd (i := .iload_n 1) (n := 1) (by decide +kernel)) rfl <|
    z_iald (zd (i := .iaload) (n := 1) (by decide +kernel)) <|
    z_iload_n (n := 3) (i := 3) (zd (i := .iload_n 3) (n := 1) (by decide +kernel)) rfl <|
    z_aload_n (n := 0) (i := 0) (zd (i := .aload_n 0) (n := 1) (by decide +kernel)) rfl <|
    z_getR (ci := 9) (j := 49) (idx := 113) (zd (i := .getfield 113) (n := 3) (by decide +kernel)) (by decide +kernel) (by decide +kernel) rfl g1177 <|
    z_bipush (n := 96) (zd (i := .bipush (96)) (n := 2) (by decide +kernel)) (by decide +kernel) <|
    z_iald (zd (i := .iaload) (n := 1) (by decide +kernel)) <|
    z_callV (idx := 352) (ci := 9) (N := n_X9_sees) (zd (i := .invokevirtual 352) (n := 3) (by decide +kernel)) to_X9_sees g1449 g1451 g68 (by decide +kernel) rfl rfl rfl (cs_X9_sees (l := l) (G := G) (gh := gh) (d) hG) <|
    z_if_eq (off := 9) (tgt := 44) (zd (i := .ifCond .eq (9)) (n := 3) (by decide +kernel)) (by decide +kernel) (zj (hj 4) (by decide +kernel)) (zj (hj 3) (by decide +kernel))
noncomputable def b_X9_seesBits_3 : zBl := fun jp K => oIld 2 <| oInt 2147483649 <| oIld 3 <| oB2 zishl <| oB2 zior <| oIst 2 <| jp 4
theorem s_X9_seesBits_3 (d : Nat) (hG : zGood gh) : zPb l G gh (d + 7) n_X9_seesBits p_X9_seesBits 38 b_X9_seesBits_3 := fun K jp hj =>
    z_iload_n (n := 2) (i := 2) (zd (i := .iload_n 2) (n := 1) (by decide +kernel)) rfl <|
    z_iconst (n := 1) (zd (i := .iconst (1)) (n := 1) (by decide +kernel)) (by decide +kernel) <|
    z_iload_n (n := 3) (i := 3) (zd (i := .iload_n 3) (n := 1) (by decide +kernel)) rfl <|
    z_ishl (zd (i := .ishl) (n := 1) (by decide +kernel)) <|
    z_ior (zd (i := .ior) (n := 1) (by decide +kernel)) <|
    z_istore_n (n := 2) (i := 2) (zd (i := .istore_n 2) (n := 1) (by decide +kernel)) rfl (by decide +kernel) <|
    (zj (hj 4) (by decide +kernel))
noncomputable def b_X9_seesBits_4 : zBl := fun jp K => oInc 3 2147483649 <| jp 1
theorem s_X9_seesBits_4 (d : Nat) (hG : zGood gh) : zPb l G gh (d + 7) n_X9_seesBits p_X9_seesBits 44 b_X9_seesBits_4 := fun K jp hj =>
    z_iinc (i := 3) (n := 1) (zd (i := .iinc 3 (1)) (n := 3) (by decide +kernel)) (by decide +kernel) (by decide +kernel) <|
    z_goto (off := -43) (tgt := 4) (zd (i := .goto (-43)) (n := 3) (by decide +kernel)) (by decide +kernel) (zj (hj 1) (by decide +kernel))
noncomputable def b_X9_seesBits_5 : zBl := fun jp K => oIld 2 <| oIret K
theorem s_X9_seesBits_5 (d : Nat) (hG : zGood gh) : zPb l G gh (d + 7) n_X9_seesBits p_X9_seesBits 50 b_X9_seesBits_5 := fun K jp hj =>
    z_iload_n (n := 2) (i := 2) (zd (i := .iload_n 2) (n := 1) (by decide +kernel)) rfl <|
    z_iret (zd (i := .ireturn) (n := 1) (by decide +kernel)) rfl
noncomputable def t_X9_seesBits : List zBl := [b_X9_seesBits_0, b_X9_seesBits_1, b_X9_seesBits_2, b_X9_seesBits_3, b_X9_seesBits_4, b_X9_seesBits_5]
theorem tt_X9_seesBits (d : Nat) (hG : zGood gh) : zT (zPb l G gh (d + 7) n_X9_seesBits p_X9_seesBits) t_X9_seesBits p_X9_seesBits := ⟨s_X9_seesBits_0 d hG, s_X9_seesBits_1 d hG, s_X9_seesBits_2 d hG, s_X9_seesBits_3 d hG, s_X9_seesBits_4 d hG, s_X9_seesBits_5 d hG, trivial⟩
def q_X9_seesBits_0 : List (Nat × Nat) := [(292, zk102), (301, zk107), (302, zk111), (303, zk111), (321, zk3), (322, zk116), (324, zk104)]
noncomputable def al_X9_seesBits_0 : zAq := [(some (.inl 9223372043297226815), [(292, zk105), (301, zk107), (302, zk111), (303, zk111), (321, zk4), (322, zk117), (324, zk104)])]
def mq_X9_seesBits_0_1 : List (Nat × Nat) := [(292, zk105), (301, zk107), (302, zk111), (303, zk111), (321, zk4), (322, zk117), (324, zk104)]
noncomputable def fm_X9_seesBits_0 : List zFm := [(0, [], (fun vs => [.inr (.ref 292), .inl 9223372043297226757]), (fun vs => zP q_X9_seesBits_0), (fun vs => Nat.sub (Nat.add 7 0) 0)),
  (1, [(3, 2147483648, 2147483654)], (fun vs => [.inr (.ref 292), .inl 9223372043297226757, .inl 9223372043297226815, .inl (zn 0 vs 0)]), (fun vs => zP mq_X9_seesBits_0_1), (fun vs => Nat.sub (Nat.add 2147483654 0) (Nat.add 0 (Nat.mul 1 (zn 0 vs 0)))))]
def bf_X9_seesBits_0 : List Nat := [0, 2]
theorem r_X9_seesBits_0_0 : zbox [] (fun vs => zFrun (zpost (zAlq al_X9_seesBits_0)) 1000 t_X9_seesBits fm_X9_seesBits_0 bf_X9_seesBits_0 (0, vs)) = true := by decide +kernel
theorem r_X9_seesBits_0_1 : zbox [(3, 2147483648, 2147483654)] (fun vs => zFrun (zpost (zAlq al_X9_seesBits_0)) 1000 t_X9_seesBits fm_X9_seesBits_0 bf_X9_seesBits_0 (1, vs)) = true := by decide +kernel
set_option maxRecDepth 100000 in
theorem x_X9_seesBits_0 (d : Nat) (hG : zGood gh) : zS l G gh (d + 7) (zpost (zAlq al_X9_seesBits_0)) n_X9_seesBits (zn 0 p_X9_seesBits 0) (zwc (0, [.inr (.ref 292), .inl 9223372043297226757], zP q_X9_seesBits_0) 0) := zentry (tt_X9_seesBits d hG) fm_X9_seesBits_0 bf_X9_seesBits_0 1000 (by decide +kernel) rfl ⟨Nat.zero_lt_succ _, trivial⟩ (fun f hf => match f, hf with
  | 0, _ => fun vs hv => (zbox_t r_X9_seesBits_0_0) vs hv
  | 1, _ => fun vs hv => (zbox_t r_X9_seesBits_0_1) vs hv
  | f + 2, h => absurd (show f + 2 < 2 from h) (Nat.not_lt.mpr (Nat.le_add_left 2 f)))
noncomputable def gs_X9_seesBits_0 : zMt := zgq true zUN 4 [.inr (.ref 292), .inl 9223372043297226757] q_X9_seesBits_0 al_X9_seesBits_0
set_option maxRecDepth 100000 in
theorem cs_X9_seesBits_0 (d : Nat) (hG : zGood gh) : zC l G gh (d + 7) n_X9_seesBits gs_X9_seesBits_0 := zgq_ok zGood_ok (pcs := p_X9_seesBits) (by decide) rfl rfl (fun a ha => by simp only [al_X9_seesBits_0, List.mem_cons, List.not_mem_nil, or_false] at ha; rcases ha with rfl <;> decide +kernel) (fun gh hG => x_X9_seesBits_0 d hG) (by decide +kernel) hG
noncomputable def gs_X9_seesBits : zMt := gs_X9_seesBits_0
theorem cs_X9_seesBits (d : Nat) (hG : zGood gh) : zC l G gh (d + 7) n_X9_seesBits gs_X9_seesBits := (cs_X9_seesBits_0 d hG)
def p_X9_lend : List Nat := [0, 8, 16, 27, 29, 54, 67, 88, 91]
noncomputable def b_X9_lend_0 : zBl := fun jp K => oAld 0 <| oIld 1 <| oCv 9 1 f_X9_isSeat <| oIf zeq zne (jp 3) (jp 1)
theorem s_X9_lend_0 (d : Nat) (hG : zGood gh) : zPb l G gh (d + 7) n_X9_lend p_X9_lend 0 b_X9_lend_0 := fun K jp hj =>
    z_aload_n (n := 0) (i := 0) (zd (i := .aload_n 0) (n := 1) (by decide +kernel)) rfl <|
    z_iload_n (n := 1) (i := 1) (zd (i := .iload_n 1) (n := 1) (by decide +kernel)) rfl <|
    z_callV (idx := 378) (ci := 9) (N := n_X9_isSeat) (zd (i := .invokevirtual 378) (n := 3) (by decide +kernel)) to_X9_isSeat g1487 g1489 g75 (by decide +kernel) rfl rfl rfl (c_X9_isSeat (l := l) (G := G) (gh := gh) (d + 4)) <|
    z_if_eq (off := 22) (tgt := 27) (zd (i := .ifCond .eq (22)) (n := 3) (by decide +kernel)) (by decide +kernel) (zj (hj 3) (by decide +kernel)) (zj (hj 1) (by decide +kernel))
noncomputable def b_X9_lend_1 : zBl := fun jp K => oAld 0 <| oIld 2 <| oCv 9 1 f_X9_isThing <| oIf zeq zne (jp 3) (jp 2)
theorem s_X9_lend_1 (d : Nat) (hG : zGood gh) : zPb l G gh (d + 7) n_X9_lend p_X9_lend 8 b_X9_lend_1 := fun K jp hj =>
    z_aload_n (n := 0) (i := 0) (zd (i := .aload_n 0) (n := 1) (by decide +kernel)) rfl <|
    z_iload_n (n := 2) (i := 2) (zd (i := .iload_n 2) (n := 1) (by decide +kernel)) rfl <|
    z_callV (idx := 372) (ci := 9) (N := n_X9_isThing) (zd (i := .invokevirtual 372) (n := 3) (by decide +kernel)) to_X9_isThing g1438 g1440 g66 (by decide +kernel) rfl rfl rfl (c_X9_isThing (l := l) (G := G) (gh := gh) (d + 4)) <|
    z_if_eq (off := 14) (tgt := 27) (zd (i := .ifCond .eq (14)) (n := 3) (by decide +kernel)) (by decide +kernel) (zj (hj 3) (by decide +kernel)) (zj (hj 2) (by decide +kernel))
noncomputable def b_X9_lend_2 : zBl := fun jp K => oIld 3 <| oInt 2147483649 <| oInt 2147484647 <| oCs 3 f_X9_in <| oIf zne zeq (jp 4) (jp 3)
theorem s_X9_lend_2 (d : Nat) (hG : zGood gh) : zPb l G gh (d + 7) n_X9_lend p_X9_lend 16 b_X9_lend_2 := fun K jp hj =>
    z_iload_n (n := 3) (i := 3) (zd (i := .iload_n 3) (n := 1) (by decide +kernel)) rfl <|
    z_iconst (n := 1) (zd (i := .iconst (1)) (n := 1) (by decide +kernel)) (by decide +kernel) <|
    z_sipush (n := 999) (zd (i := .sipush (999)) (n := 3) (by decide +kernel)) (by decide +kernel) <|
    z_callS (idx := 304) (N := n_X9_in) (zd (i := .invokestatic 304) (n := 3) (by decide +kernel)) to_X9_in g1442 g1443 rfl rfl (c_X9_in (l := l) (G := G) (gh := gh) (d + 5)) <|
    z_if_ne (off := 5) (tgt := 29) (zd (i := .ifCond .ne (5)) (n := 3) (by decide +kernel)) (by decide +kernel) (zj (hj 4) (by decide +kernel)) (zj (hj 3) (by decide +kernel))
noncomputable def b_X9_lend_3 : zBl := fun jp K => oInt 2147483647 <| oIret K
theorem s_X9_lend_3 (d : Nat) (hG : zGood gh) : zPb l G gh (d + 7) n_X9_lend p_X9_lend 27 b_X9_lend_3 := fun K jp hj =>
    z_iconst (n := -1) (zd (i := .iconst (-1)) (n := 1) (by decide +kernel)) (by decide +kernel) <|
    z_iret (zd (i := .ireturn) (n := 1) (by decide +kernel)) rfl
noncomputable def b_X9_lend_4 : zBl := fun jp K => oAld 0 <| oCv 9 0 gs_X9_copies <| oInt 2147483654 <| oIld 1 <| oB2 zimul <| oIld 2 <| oB2 zadd <| oIst 4 <| oAld 0 <| oGetR 9 49 <| oInt 2147483654 <| oIld 1 <| oB2 zadd <| oXald 10 <| oIld 3 <| oIc zlt zge (jp 7) (jp 5)
theorem s_X9_lend_4 (d : Nat) (hG : zGood gh) : zPb l G gh (d + 7) n_X9_lend p_X9_lend 29 b_X9_lend_4 := fun K jp hj =>
    z_aload_n (n := 0) (i := 0) (zd (i := .aload_n 0) (n := 1) (by decide +kernel)) rfl <|
    z_callV (idx := 375) (ci := 9) (N := n_X9_copies) (zd (i := .invokevirtual 375) (n := 3) (by decide +kernel)) to_X9_copies g1445 g1447 g67 (by decide +kernel) rfl rfl rfl (cs_X9_copies (l := l) (G := G) (gh := gh) (d + 5)) <|
    z_bipush (n := 6) (zd (i := .bipush (6)) (n := 2) (by decide +kernel)) (by decide +kernel) <|
    z_iload_n (n := 1) (i := 1) (zd (i := .iload_n 1) (n := 1) (by decide +kernel)) rfl <|
    z_imul (zd (i := .imul) (n := 1) (by decide +kernel)) <|
    z_iload_n (n := 2) (i := 2) (zd (i := .iload_n 2) (n := 1) (by decide +kernel)) rfl <|
    z_iadd (zd (i := .iadd) (n := 1) (by decide +kernel)) <|
    z_istore (i := 4) (zd (i := .istore 4) (n := 2) (by decide +kernel)) (by decide +kernel) <|
    z_aload_n (n := 0) (i := 0) (zd (i := .aload_n 0) (n := 1) (by decide +kernel)) rfl <|
    z_getR (ci := 9) (j := 49) (idx := 113) (zd (i := .getfield 113) (n := 3) (by decide +kernel)) (by decide +kernel) (by decide +kernel) rfl g1177 <|
    z_bipush (n := 6) (zd (i := .bipush (6)) (n := 2) (by decide +kernel)) (by decide +kernel) <|
    z_iload_n (n := 1) (i := 1) (zd (i := .iload_n 1) (n := 1) (by decide +kernel)) rfl <|
    z_iadd (zd (i := .iadd) (n := 1) (by decide +kernel)) <|
    z_iald (zd (i := .iaload) (n := 1) (by decide +kernel)) <|
    z_iload_n (n := 3) (i := 3) (zd (i := .iload_n 3) (n := 1) (by decide +kernel)) rfl <|
    z_icmp_lt (off := 37) (tgt := 88) (zd (i := .if_icmp .lt (37)) (n := 3) (by decide +kernel)) (by decide +kernel) (zj (hj 7) (by decide +kernel)) (zj (hj 5) (by decide +kernel))
noncomputable def b_X9_lend_5 : zBl := fun jp K => oAld 0 <| oGetR 9 49 <| oInt 2147483672 <| oIld 4 <| oB2 zadd <| oXald 10 <| oIf zgt zle (jp 7) (jp 6)
theorem s_X9_lend_5 (d : Nat) (hG : zGood gh) : zPb l G gh (d + 7) n_X9_lend p_X9_lend 54 b_X9_lend_5 := fun K jp hj =>
    z_aload_n (n := 0) (i := 0) (zd (i := .aload_n 0) (n := 1) (by decide +kernel)) rfl <|
    z_getR (ci := 9) (j := 49) (idx := 113) (zd (i := .getfield 113) (n := 3) (by decide +kernel)) (by decide +kernel) (by decide +kernel) rfl g1177 <|
    z_bipush (n := 24) (zd (i := .bipush (24)) (n := 2) (by decide +kernel)) (by decide +kernel) <|
    z_iload (i := 4) (zd (i := .iload 4) (n := 2) (by decide +kernel)) <|
    z_iadd (zd (i := .iadd) (n := 1) (by decide +kernel)) <|
    z_iald (zd (i := .iaload) (n := 1) (by decide +kernel)) <|
    z_if_gt (off := 24) (tgt := 88) (zd (i := .ifCond .gt (24)) (n := 3) (by decide +kernel)) (by decide +kernel) (zj (hj 7) (by decide +kernel)) (zj (hj 6) (by decide +kernel))
noncomputable def b_X9_lend_6 : zBl := fun jp K => oAld 0 <| oAld 0 <| oGetR 9 49 <| oIld 1 <| oXald 10 <| oIld 2 <| oAld 0 <| oGetR 9 49 <| oInt 2147483744 <| oXald 10 <| oCv 9 3 gs_X9_sees <| oIf zne zeq (jp 8) (jp 7)
theorem s_X9_lend_6 (d : Nat) (hG : zGood gh) : zPb l G gh (d + 7) n_X9_lend p_X9_lend 67 b_X9_lend_6 := fun K jp hj =>
    z_aload_n (n := 0) (i := 0) (zd (i := .aload_n 0) (n := 1) (by decide +kernel)) rfl <|
    z_aload_n (n := 0) (i := 0) (zd (i := .aload_n 0) (n := 1) (by decide +kernel)) rfl <|
    z_getR (ci := 9) (j := 49) (idx := 113) (zd (i := .getfield 113) (n := 3) (by decide +kernel)) (by decide +kernel) (by decide +kernel) rfl g1177 <|
    z_iload_n (n := 1) (i := 1) (zd (i := .iload_n 1) (n := 1) (by decide +kernel)) rfl <|
    z_iald (zd (i := .iaload) (n := 1) (by decide +kernel)) <|
    z_iload_n (n := 2) (i := 2) (zd (i := .iload_n 2) (n := 1) (by decide +kernel)) rfl <|
    z_aload_n (n := 0) (i := 0) (zd (i := .aload_n 0) (n := 1) (by decide +kernel)) rfl <|
    z_getR (ci := 9) (j := 49) (idx := 113) (zd (i := .getfield 113) (n := 3) (by decide +kernel)) (by decide +kernel) (by decide +kernel) rfl g1177 <|
    z_bipush (n := 96) (zd (i := .bipush (96)) (n := 2) (by decide +kernel)) (by decide +kernel) <|
    z_iald (zd (i := .iaload) (n := 1) (by decide +kernel)) <|
    z_callV (idx := 352) (ci := 9) (N := n_X9_sees) (zd (i := .invokevirtual 352) (n := 3) (by decide +kernel)) to_X9_sees g1449 g1451 g68 (by decide +kernel) rfl rfl rfl (cs_X9_sees (l := l) (G := G) (gh := gh) (d) hG) <|
    z_if_ne (off := 6) (tgt := 91) (zd (i := .ifCond .ne (6)) (n := 3) (by decide +kernel)) (by decide +kernel) (zj (hj 8) (by decide +kernel)) (zj (hj 7) (by decide +kernel))
noncomputable def b_X9_lend_7 : zBl := fun jp K => oInt 2147483646 <| oIret K
theorem s_X9_lend_7 (d : Nat) (hG : zGood gh) : zPb l G gh (d + 7) n_X9_lend p_X9_lend 88 b_X9_lend_7 := fun K jp hj =>
    z_bipush (n := -2) (zd (i := .bipush (-2)) (n := 2) (by decide +kernel)) (by decide +kernel) <|
    z_iret (zd (i := .ireturn) (n := 1) (by decide +kernel)) rfl
noncomputable def b_X9_lend_8 : zBl := fun jp K => oAld 0 <| oGetR 9 49 <| oInt 2147483654 <| oIld 1 <| oB2 zadd <| oDup2 <| oXald 10 <| oIld 3 <| oB2 zsub <| oXast 10 zid <| oAld 0 <| oGetR 9 49 <| oInt 2147483672 <| oIld 4 <| oB2 zadd <| oIld 3 <| oXast 10 zid <| oAld 0 <| oGetR 9 49 <| oInt 2147483708 <| oIld 4 <| oB2 zadd <| oInt 2147483648 <| oXast 10 zid <| oAld 0 <| oCv 9 0 gs_X9_records <| oAld 0 <| oGetR 9 48 <| oInt 2147483654 <| oIld 1 <| oB2 zadd <| oXald 10 <| oIret K
theorem s_X9_lend_8 (d : Nat) (hG : zGood gh) : zPb l G gh (d + 7) n_X9_lend p_X9_lend 91 b_X9_lend_8 := fun K jp hj =>
    z_aload_n (n := 0) (i := 0) (zd (i := .aload_n 0) (n := 1) (by decide +kernel)) rfl <|
    z_getR (ci := 9) (j := 49) (idx := 113) (zd (i := .getfield 113) (n := 3) (by decide +kernel)) (by decide +kernel) (by decide +kernel) rfl g1177 <|
    z_bipush (n := 6) (zd (i := .bipush (6)) (n := 2) (by decide +kernel)) (by decide +kernel) <|
    z_iload_n (n := 1) (i := 1) (zd (i := .iload_n 1) (n := 1) (by decide +kernel)) rfl <|
    z_iadd (zd (i := .iadd) (n := 1) (by decide +kernel)) <|
    z_dup2 (zd (i := .dup2) (n := 1) (by decide +kernel)) <|
    z_iald (zd (i := .iaload) (n := 1) (by decide +kernel)) <|
    z_iload_n (n := 3) (i := 3) (zd (i := .iload_n 3) (n := 1) (by decide +kernel)) rfl <|
    z_isub (zd (i := .isub) (n := 1) (by decide +kernel)) <|
    z_iast (zd (i := .iastore) (n := 1) (by decide +kernel)) <|
    z_aload_n (n := 0) (i := 0) (zd (i := .aload_n 0) (n := 1) (by decide +kernel)) rfl <|
    z_getR (ci := 9) (j := 49) (idx := 113) (zd (i := .getfield 113) (n := 3) (by decide +kernel)) (by decide +kernel) (by decide +kernel) rfl g1177 <|
    z_bipush (n := 24) (zd (i := .bipush (24)) (n := 2) (by decide +kernel)) (by decide +kernel) <|
    z_iload (i := 4) (zd (i := .iload 4) (n := 2) (by decide +kernel)) <|
    z_iadd (zd (i := .iadd) (n := 1) (by decide +kernel)) <|
    z_iload_n (n := 3) (i := 3) (zd (i := .iload_n 3) (n := 1) (by decide +kernel)) rfl <|
    z_iast (zd (i := .iastore) (n := 1) (by decide +kernel)) <|
    z_aload_n (n := 0) (i := 0) (zd (i := .aload_n 0) (n := 1) (by decide +kernel)) rfl <|
    z_getR (ci := 9) (j := 49) (idx := 113) (zd (i := .getfield 113) (n := 3) (by decide +kernel)) (by decide +kernel) (by decide +kernel) rfl g1177 <|
    z_bipush (n := 60) (zd (i := .bipush (60)) (n := 2) (by decide +kernel)) (by decide +kernel) <|
    z_iload (i := 4) (zd (i := .iload 4) (n := 2) (by decide +kernel)) <|
    z_iadd (zd (i := .iadd) (n := 1) (by decide +kernel)) <|
    z_iconst (n := 0) (zd (i := .iconst (0)) (n := 1) (by decide +kernel)) (by decide +kernel) <|
    z_iast (zd (i := .iastore) (n := 1) (by decide +kernel)) <|
    z_aload_n (n := 0) (i := 0) (zd (i := .aload_n 0) (n := 1) (by decide +kernel)) rfl <|
    z_callV (idx := 390) (ci := 9) (N := n_X9_records) (zd (i := .invokevirtual 390) (n := 3) (by decide +kernel)) to_X9_records g1526 g1528 g81 (by decide +kernel) rfl rfl rfl (cs_X9_records (l := l) (G := G) (gh := gh) (d + 4)) <|
    z_aload_n (n := 0) (i := 0) (zd (i := .aload_n 0) (n := 1) (by decide +kernel)) rfl <|
    z_getR (ci := 9) (j := 48) (idx := 110) (zd (i := .getfield 110) (n := 3) (by decide +kernel)) (by decide +kernel) (by decide +kernel) rfl g1176 <|
    z_bipush (n := 6) (zd (i := .bipush (6)) (n := 2) (by decide +kernel)) (by decide +kernel) <|
    z_iload_n (n := 1) (i := 1) (zd (i := .iload_n 1) (n := 1) (by decide +kernel)) rfl <|
    z_iadd (zd (i := .iadd) (n := 1) (by decide +kernel)) <|
    z_iald (zd (i := .iaload) (n := 1) (by decide +kernel)) <|
    z_iret (zd (i := .ireturn) (n := 1) (by decide +kernel)) rfl
noncomputable def t_X9_lend : List zBl := [b_X9_lend_0, b_X9_lend_1, b_X9_lend_2, b_X9_lend_3, b_X9_lend_4, b_X9_lend_5, b_X9_lend_6, b_X9_lend_7, b_X9_lend_8]
theorem tt_X9_lend (d : Nat) (hG : zGood gh) : zT (zPb l G gh (d + 7) n_X9_lend p_X9_lend) t_X9_lend p_X9_lend := ⟨s_X9_lend_0 d hG, s_X9_lend_1 d hG, s_X9_lend_2 d hG, s_X9_lend_3 d hG, s_X9_lend_4 d hG, s_X9_lend_5 d hG, s_X9_lend_6 d hG, s_X9_lend_7 d hG, s_X9_lend_8 d hG, trivial⟩
def q_X9_lend_0 : List (Nat × Nat) := [(292, zk102), (301, zk107), (302, zk111), (303, zk111), (304, zk107), (310, zk103), (321, zk3), (322, zk116), (323, zk104), (324, zk104), (325, zk108)]
noncomputable def al_X9_lend_0 : zAq := [(some (.inl 8589934591), [(292, zk109), (301, zk107), (302, zk111), (303, zk111), (304, zk107), (310, zk103), (321, zk4), (322, zk117), (323, zk106), (324, zk106), (325, zk112)])]
noncomputable def fm_X9_lend_0 : List zFm := [(0, [], (fun vs => [.inr (.ref 292), .inl 9223372043297226757, .inl 9223372043297226757, .inl 9223372047592195047]), (fun vs => zP q_X9_lend_0), (fun vs => Nat.sub (Nat.add 0 0) 0))]
def bf_X9_lend_0 : List Nat := []
theorem r_X9_lend_0_0 : zbox [] (fun vs => zFrun (zpost (zAlq al_X9_lend_0)) 1000 t_X9_lend fm_X9_lend_0 bf_X9_lend_0 (0, vs)) = true := by decide +kernel
set_option maxRecDepth 100000 in
theorem x_X9_lend_0 (d : Nat) (hG : zGood gh) : zS l G gh (d + 7) (zpost (zAlq al_X9_lend_0)) n_X9_lend (zn 0 p_X9_lend 0) (zwc (0, [.inr (.ref 292), .inl 9223372043297226757, .inl 9223372043297226757, .inl 9223372047592195047], zP q_X9_lend_0) 0) := zentry (tt_X9_lend d hG) fm_X9_lend_0 bf_X9_lend_0 1000 (by decide +kernel) rfl ⟨Nat.zero_lt_succ _, trivial⟩ (fun f hf => match f, hf with
  | 0, _ => fun vs hv => (zbox_t r_X9_lend_0_0) vs hv
  | f + 1, h => absurd (show f + 1 < 1 from h) (Nat.not_lt.mpr (Nat.le_add_left 1 f)))
noncomputable def gs_X9_lend_0 : zMt := zgq true zUN 5 [.inr (.ref 292), .inl 9223372043297226757, .inl 9223372043297226757, .inl 9223372047592195047] q_X9_lend_0 al_X9_lend_0
set_option maxRecDepth 100000 in
theorem cs_X9_lend_0 (d : Nat) (hG : zGood gh) : zC l G gh (d + 7) n_X9_lend gs_X9_lend_0 := zgq_ok zGood_ok (pcs := p_X9_lend) (by decide) rfl rfl (fun a ha => by simp only [al_X9_lend_0, List.mem_cons, List.not_mem_nil, or_false] at ha; rcases ha with rfl <;> decide +kernel) (fun gh hG => x_X9_lend_0 d hG) (by decide +kernel) hG
def q_X9_lend_1 : List (Nat × Nat) := [(292, zk102), (301, zk107), (304, zk107)]
noncomputable def al_X9_lend_1 : zAq := [(some (.inl 2147483647), [(292, zk102), (301, zk107), (304, zk107)])]
noncomputable def fm_X9_lend_1 : List zFm := [(0, [], (fun vs => [.inr (.ref 292), .inl 9223372043297226757, .inl 9223372043297226757, .inl 6442450944]), (fun vs => zP q_X9_lend_1), (fun vs => Nat.sub (Nat.add 0 0) 0))]
def bf_X9_lend_1 : List Nat := []
theorem r_X9_lend_1_0 : zbox [] (fun vs => zFrun (zpost (zAlq al_X9_lend_1)) 1000 t_X9_lend fm_X9_lend_1 bf_X9_lend_1 (0, vs)) = true := by decide +kernel
set_option maxRecDepth 100000 in
theorem x_X9_lend_1 (d : Nat) (hG : zGood gh) : zS l G gh (d + 7) (zpost (zAlq al_X9_lend_1)) n_X9_lend (zn 0 p_X9_lend 0) (zwc (0, [.inr (.ref 292), .inl 9223372043297226757, .inl 9223372043297226757, .inl 6442450944], zP q_X9_lend_1) 0) := zentry (tt_X9_lend d hG) fm_X9_lend_1 bf_X9_lend_1 1000 (by decide +kernel) rfl ⟨Nat.zero_lt_succ _, trivial⟩ (fun f hf => match f, hf with
  | 0, _ => fun vs hv => (zbox_t r_X9_lend_1_0) vs hv
  | f + 1, h => absurd (show f + 1 < 1 from h) (Nat.not_lt.mpr (Nat.le_add_left 1 f)))
noncomputable def gs_X9_lend_1 : zMt := zgq true zUN 5 [.inr (.ref 292), .inl 9223372043297226757, .inl 9223372043297226757, .inl 6442450944] q_X9_lend_1 al_X9_lend_1
set_option maxRecDepth 100000 in
theorem cs_X9_lend_1 (d : Nat) (hG : zGood gh) : zC l G gh (d + 7) n_X9_lend gs_X9_lend_1 := zgq_ok zGood_ok (pcs := p_X9_lend) (by decide) rfl rfl (fun a ha => by simp only [al_X9_lend_1, List.mem_cons, List.not_mem_nil, or_false] at ha; rcases ha with rfl <;> decide +kernel) (fun gh hG => x_X9_lend_1 d hG) (by decide +kernel) hG
def q_X9_lend_2 : List (Nat × Nat) := [(292, zk102), (301, zk107), (304, zk107)]
noncomputable def al_X9_lend_2 : zAq := [(some (.inl 2147483647), [(292, zk102), (301, zk107), (304, zk107)])]
noncomputable def fm_X9_lend_2 : List zFm := [(0, [], (fun vs => [.inr (.ref 292), .inl 9223372043297226757, .inl 9223372043297226757, .inl 9223376340412006399]), (fun vs => zP q_X9_lend_2), (fun vs => Nat.sub (Nat.add 0 0) 0))]
def bf_X9_lend_2 : List Nat := []
theorem r_X9_lend_2_0 : zbox [] (fun vs => zFrun (zpost (zAlq al_X9_lend_2)) 1000 t_X9_lend fm_X9_lend_2 bf_X9_lend_2 (0, vs)) = true := by decide +kernel
set_option maxRecDepth 100000 in
theorem x_X9_lend_2 (d : Nat) (hG : zGood gh) : zS l G gh (d + 7) (zpost (zAlq al_X9_lend_2)) n_X9_lend (zn 0 p_X9_lend 0) (zwc (0, [.inr (.ref 292), .inl 9223372043297226757, .inl 9223372043297226757, .inl 9223376340412006399], zP q_X9_lend_2) 0) := zentry (tt_X9_lend d hG) fm_X9_lend_2 bf_X9_lend_2 1000 (by decide +kernel) rfl ⟨Nat.zero_lt_succ _, trivial⟩ (fun f hf => match f, hf with
  | 0, _ => fun vs hv => (zbox_t r_X9_lend_2_0) vs hv
  | f + 1, h => absurd (show f + 1 < 1 from h) (Nat.not_lt.mpr (Nat.le_add_left 1 f)))
noncomputable def gs_X9_lend_2 : zMt := zgq true zUN 5 [.inr (.ref 292), .inl 9223372043297226757, .inl 9223372043297226757, .inl 9223376340412006399] q_X9_lend_2 al_X9_lend_2
set_option maxRecDepth 100000 in
theorem cs_X9_lend_2 (d : Nat) (hG : zGood gh) : zC l G gh (d + 7) n_X9_lend gs_X9_lend_2 := zgq_ok zGood_ok (pcs := p_X9_lend) (by decide) rfl rfl (fun a ha => by simp only [al_X9_lend_2, List.mem_cons, List.not_mem_nil, or_false] at ha; rcases ha with rfl <;> decide +kernel) (fun gh hG => x_X9_lend_2 d hG) (by decide +kernel) hG
def q_X9_lend_3 : List (Nat × Nat) := [(292, zk102), (301, zk107), (304, zk107)]
noncomputable def al_X9_lend_3 : zAq := [(some (.inl 2147483647), [(292, zk102), (301, zk107), (304, zk107)])]
noncomputable def fm_X9_lend_3 : List zFm := [(0, [], (fun vs => [.inr (.ref 292), .inl 9223372043297226757, .inl 6442450943, .inl 8589934591]), (fun vs => zP q_X9_lend_3), (fun vs => Nat.sub (Nat.add 0 0) 0))]
def bf_X9_lend_3 : List Nat := []
theorem r_X9_lend_3_0 : zbox [] (fun vs => zFrun (zpost (zAlq al_X9_lend_3)) 1000 t_X9_lend fm_X9_lend_3 bf_X9_lend_3 (0, vs)) = true := by decide +kernel
set_option maxRecDepth 100000 in
theorem x_X9_lend_3 (d : Nat) (hG : zGood gh) : zS l G gh (d + 7) (zpost (zAlq al_X9_lend_3)) n_X9_lend (zn 0 p_X9_lend 0) (zwc (0, [.inr (.ref 292), .inl 9223372043297226757, .inl 6442450943, .inl 8589934591], zP q_X9_lend_3) 0) := zentry (tt_X9_lend d hG) fm_X9_lend_3 bf_X9_lend_3 1000 (by decide +kernel) rfl ⟨Nat.zero_lt_succ _, trivial⟩ (fun f hf => match f, hf with
  | 0, _ => fun vs hv => (zbox_t r_X9_lend_3_0) vs hv
  | f + 1, h => absurd (show f + 1 < 1 from h) (Nat.not_lt.mpr (Nat.le_add_left 1 f)))
noncomputable def gs_X9_lend_3 : zMt := zgq true zUN 5 [.inr (.ref 292), .inl 9223372043297226757, .inl 6442450943, .inl 8589934591] q_X9_lend_3 al_X9_lend_3
set_option maxRecDepth 100000 in
theorem cs_X9_lend_3 (d : Nat) (hG : zGood gh) : zC l G gh (d + 7) n_X9_lend gs_X9_lend_3 := zgq_ok zGood_ok (pcs := p_X9_lend) (by decide) rfl rfl (fun a ha => by simp only [al_X9_lend_3, List.mem_cons, List.not_mem_nil, or_false] at ha; rcases ha with rfl <;> decide +kernel) (fun gh hG => x_X9_lend_3 d hG) (by decide +kernel) hG
def q_X9_lend_4 : List (Nat × Nat) := [(292, zk102), (301, zk107), (304, zk107)]
noncomputable def al_X9_lend_4 : zAq := [(some (.inl 2147483647), [(292, zk102), (301, zk107), (304, zk107)])]
noncomputable def fm_X9_lend_4 : List zFm := [(0, [], (fun vs => [.inr (.ref 292), .inl 9223372043297226757, .inl 9223372071214514175, .inl 8589934591]), (fun vs => zP q_X9_lend_4), (fun vs => Nat.sub (Nat.add 0 0) 0))]
def bf_X9_lend_4 : List Nat := []
theorem r_X9_lend_4_0 : zbox [] (fun vs => zFrun (zpost (zAlq al_X9_lend_4)) 1000 t_X9_lend fm_X9_lend_4 bf_X9_lend_4 (0, vs)) = true := by decide +kernel
set_option maxRecDepth 100000 in
theorem x_X9_lend_4 (d : Nat) (hG : zGood gh) : zS l G gh (d + 7) (zpost (zAlq al_X9_lend_4)) n_X9_lend (zn 0 p_X9_lend 0) (zwc (0, [.inr (.ref 292), .inl 9223372043297226757, .inl 9223372071214514175, .inl 8589934591], zP q_X9_lend_4) 0) := zentry (tt_X9_lend d hG) fm_X9_lend_4 bf_X9_lend_4 1000 (by decide +kernel) rfl ⟨Nat.zero_lt_succ _, trivial⟩ (fun f hf => match f, hf with
  | 0, _ => fun vs hv => (zbox_t r_X9_lend_4_0) vs hv
  | f + 1, h => absurd (show f + 1 < 1 from h) (Nat.not_lt.mpr (Nat.le_add_left 1 f)))
noncomputable def gs_X9_lend_4 : zMt := zgq true zUN 5 [.inr (.ref 292), .inl 9223372043297226757, .inl 9223372071214514175, .inl 8589934591] q_X9_lend_4 al_X9_lend_4
set_option maxRecDepth 100000 in
theorem cs_X9_lend_4 (d : Nat) (hG : zGood gh) : zC l G gh (d + 7) n_X9_lend gs_X9_lend_4 := zgq_ok zGood_ok (pcs := p_X9_lend) (by decide) rfl rfl (fun a ha => by simp only [al_X9_lend_4, List.mem_cons, List.not_mem_nil, or_false] at ha; rcases ha with rfl <;> decide +kernel) (fun gh hG => x_X9_lend_4 d hG) (by decide +kernel) hG
def q_X9_lend_5 : List (Nat × Nat) := [(292, zk102), (304, zk107)]
noncomputable def al_X9_lend_5 : zAq := [(some (.inl 2147483647), [(292, zk102), (304, zk107)])]
noncomputable def fm_X9_lend_5 : List zFm := [(0, [], (fun vs => [.inr (.ref 292), .inl 6442450943, .inl 8589934591, .inl 8589934591]), (fun vs => zP q_X9_lend_5), (fun vs => Nat.sub (Nat.add 0 0) 0))]
def bf_X9_lend_5 : List Nat := []
theorem r_X9_lend_5_0 : zbox [] (fun vs => zFrun (zpost (zAlq al_X9_lend_5)) 1000 t_X9_lend fm_X9_lend_5 bf_X9_lend_5 (0, vs)) = true := by decide +kernel
set_option maxRecDepth 100000 in
theorem x_X9_lend_5 (d : Nat) (hG : zGood gh) : zS l G gh (d + 7) (zpost (zAlq al_X9_lend_5)) n_X9_lend (zn 0 p_X9_lend 0) (zwc (0, [.inr (.ref 292), .inl 6442450943, .inl 8589934591, .inl 8589934591], zP q_X9_lend_5) 0) := zentry (tt_X9_lend d hG) fm_X9_lend_5 bf_X9_lend_5 1000 (by decide +kernel) rfl ⟨Nat.zero_lt_succ _, trivial⟩ (fun f hf => match f, hf with
  | 0, _ => fun vs hv => (zbox_t r_X9_lend_5_0) vs hv
  | f + 1, h => absurd (show f + 1 < 1 from h) (Nat.not_lt.mpr (Nat.le_add_left 1 f)))
noncomputable def gs_X9_lend_5 : zMt := zgq true zUN 5 [.inr (.ref 292), .inl 6442450943, .inl 8589934591, .inl 8589934591] q_X9_lend_5 al_X9_lend_5
set_option maxRecDepth 100000 in
theorem cs_X9_lend_5 (d : Nat) (hG : zGood gh) : zC l G gh (d + 7) n_X9_lend gs_X9_lend_5 := zgq_ok zGood_ok (pcs := p_X9_lend) (by decide) rfl rfl (fun a ha => by simp only [al_X9_lend_5, List.mem_cons, List.not_mem_nil, or_false] at ha; rcases ha with rfl <;> decide +kernel) (fun gh hG => x_X9_lend_5 d hG) (by decide +kernel) hG
def q_X9_lend_6 : List (Nat × Nat) := [(292, zk102), (304, zk107)]
noncomputable def al_X9_lend_6 : zAq := [(some (.inl 2147483647), [(292, zk102), (304, zk107)])]
noncomputable def fm_X9_lend_6 : List zFm := [(0, [], (fun vs => [.inr (.ref 292), .inl 9223372071214514175, .inl 8589934591, .inl 8589934591]), (fun vs => zP q_X9_lend_6), (fun vs => Nat.sub (Nat.add 0 0) 0))]
def bf_X9_lend_6 : List Nat := []
theorem r_X9_lend_6_0 : zbox [] (fun vs => zFrun (zpost (zAlq al_X9_lend_6)) 1000 t_X9_lend fm_X9_lend_6 bf_X9_lend_6 (0, vs)) = true := by decide +kernel
set_option maxRecDepth 100000 in
theorem x_X9_lend_6 (d : Nat) (hG : zGood gh) : zS l G gh (d + 7) (zpost (zAlq al_X9_lend_6)) n_X9_lend (zn 0 p_X9_lend 0) (zwc (0, [.inr (.ref 292), .inl 9223372071214514175, .inl 8589934591, .inl 8589934591], zP q_X9_lend_6) 0) := zentry (tt_X9_lend d hG) fm_X9_lend_6 bf_X9_lend_6 1000 (by decide +kernel) rfl ⟨Nat.zero_lt_succ _, trivial⟩ (fun f hf => match f, hf with
  | 0, _ => fun vs hv => (zbox_t r_X9_lend_6_0) vs hv
  | f + 1, h => absurd (show f + 1 < 1 from h) (Nat.not_lt.mpr (Nat.le_add_left 1 f)))
noncomputable def gs_X9_lend_6 : zMt := zgq true zUN 5 [.inr (.ref 292), .inl 9223372071214514175, .inl 8589934591, .inl 8589934591] q_X9_lend_6 al_X9_lend_6
set_option maxRecDepth 100000 in
theorem cs_X9_lend_6 (d : Nat) (hG : zGood gh) : zC l G gh (d + 7) n_X9_lend gs_X9_lend_6 := zgq_ok zGood_ok (pcs := p_X9_lend) (by decide) rfl rfl (fun a ha => by simp only [al_X9_lend_6, List.mem_cons, List.not_mem_nil, or_false] at ha; rcases ha with rfl <;> decide +kernel) (fun gh hG => x_X9_lend_6 d hG) (by decide +kernel) hG
noncomputable def gs_X9_lend : zMt := (zor gs_X9_lend_0 (zor gs_X9_lend_1 (zor gs_X9_lend_2 (zor gs_X9_lend_3 (zor gs_X9_lend_4 (zor gs_X9_lend_5 gs_X9_lend_6))))))
theorem cs_X9_lend (d : Nat) (hG : zGood gh) : zC l G gh (d + 7) n_X9_lend gs_X9_lend := (zor_ok (cs_X9_lend_0 d hG) (zor_ok (cs_X9_lend_1 d hG) (zor_ok (cs_X9_lend_2 d hG) (zor_ok (cs_X9_lend_3 d hG) (zor_ok (cs_X9_lend_4 d hG) (zor_ok (cs_X9_lend_5 d hG) (cs_X9_lend_6 d hG)))))))
def p_X9_call : List Nat := [0, 8, 16, 18, 45, 66, 84, 87]
noncomputable def b_X9_call_0 : zBl := fun jp K => oAld 0 <| oIld 1 <| oCv 9 1 f_X9_isSeat <| oIf zeq zne (jp 2) (jp 1)
theorem s_X9_call_0 (d : Nat) (hG : zGood gh) : zPb l G gh (d + 7) n_X9_call p_X9_call 0 b_X9_call_0 := fun K jp hj =>
    z_aload_n (n := 0) (i := 0) (zd (i := .aload_n 0) (n := 1) (by decide +kernel)) rfl <|
    z_iload_n (n := 1) (i := 1) (zd (i := .iload_n 1) (n := 1) (by decide +kernel)) rfl <|
    z_callV (idx := 378) (ci := 9) (N := n_X9_isSeat) (zd (i := .invokevirtual 378) (n := 3) (by decide +kernel)) to_X9_isSeat g1487 g1489 g75 (by decide +kernel) rfl rfl rfl (c_X9_isSeat (l := l) (G := G) (gh := gh) (d + 4)) <|
    z_if_eq (off := 11) (tgt := 16) (zd (i := .ifCond .eq (11)) (n := 3) (by decide +kernel)) (by decide +kernel) (zj (hj 2) (by decide +kernel)) (zj (hj 1) (by decide +kernel))
noncomputable def b_X9_call_1 : zBl := fun jp K => oAld 0 <| oIld 2 <| oCv 9 1 f_X9_isThing <| oIf zne zeq (jp 3) (jp 2)
theorem s_X9_call_1 (d : Nat) (hG : zGood gh) : zPb l G gh (d + 7) n_X9_call p_X9_call 8 b_X9_call_1 := fun K jp hj =>
    z_aload_n (n := 0) (i := 0) (zd (i := .aload_n 0) (n := 1) (by decide +kernel)) rfl <|
    z_iload_n (n := 2) (i := 2) (zd (i := .iload_n 2) (n := 1) (by decide +kernel)) rfl <|
    z_callV (idx := 372) (ci := 9) (N := n_X9_isThing) (zd (i := .invokevirtual 372) (n := 3) (by decide +kernel)) to_X9_isThing g1438 g1440 g66 (by decide +kernel) rfl rfl rfl (c_X9_isThing (l := l) (G := G) (gh := gh) (d + 4)) <|
    z_if_ne (off := 5) (tgt := 18) (zd (i := .ifCond .ne (5)) (n := 3) (by decide +kernel)) (by decide +kernel) (zj (hj 3) (by decide +kernel)) (zj (hj 2) (by decide +kernel))
noncomputable def b_X9_call_2 : zBl := fun jp K => oInt 2147483647 <| oIret K
theorem s_X9_call_2 (d : Nat) (hG : zGood gh) : zPb l G gh (d + 7) n_X9_call p_X9_call 16 b_X9_call_2 := fun K jp hj =>
    z_iconst (n := -1) (zd (i := .iconst (-1)) (n := 1) (by decide +kernel)) (by decide +kernel) <|
    z_iret (zd (i := .ireturn) (n := 1) (by decide +kernel)) rfl
noncomputable def b_X9_call_3 : zBl := fun jp K => oAld 0 <| oCv 9 0 gs_X9_copies <| oInt 2147483654 <| oIld 1 <| oB2 zimul <| oIld 2 <| oB2 zadd <| oIst 3 <| oAld 0 <| oGetR 9 49 <| oInt 2147483672 <| oIld 3 <| oB2 zadd <| oXald 10 <| oIst 4 <| oNLC 4 2147483648 zeqN zneN zn1_eq zn1_ne (jp 6) (jp 4)
theorem s_X9_call_3 (d : Nat) (hG : zGood gh) : zPb l G gh (d + 7) n_X9_call p_X9_call 18 b_X9_call_3 := fun K jp hj =>
    z_aload_n (n := 0) (i := 0) (zd (i := .aload_n 0) (n := 1) (by decide +kernel)) rfl <|
    z_callV (idx := 375) (ci := 9) (N := n_X9_copies) (zd (i := .invokevirtual 375) (n := 3) (by decide +kernel)) to_X9_copies g1445 g1447 g67 (by decide +kernel) rfl rfl rfl (cs_X9_copies (l := l) (G := G) (gh := gh) (d + 5)) <|
    z_bipush (n := 6) (zd (i := .bipush (6)) (n := 2) (by decide +kernel)) (by decide +kernel) <|
    z_iload_n (n := 1) (i := 1) (zd (i := .iload_n 1) (n := 1) (by decide +kernel)) rfl <|
    z_imul (zd (i := .imul) (n := 1) (by decide +kernel)) <|
    z_iload_n (n := 2) (i := 2) (zd (i := .iload_n 2) (n := 1) (by decide +kernel)) rfl <|
    z_iadd (zd (i := .iadd) (n := 1) (by decide +kernel)) <|
    z_istore_n (n := 3) (i := 3) (zd (i := .istore_n 3) (n := 1) (by decide +kernel)) rfl (by decide +kernel) <|
    z_aload_n (n := 0) (i := 0) (zd (i := .aload_n 0) (n := 1) (by decide +kernel)) rfl <|
    z_getR (ci := 9) (j := 49) (idx := 113) (zd (i := .getfield 113) (n := 3) (by decide +kernel)) (by decide +kernel) (by decide +kernel) rfl g1177 <|
    z_bipush (n := 24) (zd (i := .bipush (24)) (n := 2) (by decide +kernel)) (by decide +kernel) <|
    z_iload_n (n := 3) (i := 3) (zd (i := .iload_n 3) (n := 1) (by decide +kernel)) rfl <|
    z_iadd (zd (i := .iadd) (n := 1) (by decide +kernel)) <|
    z_iald (zd (i := .iaload) (n := 1) (by decide +kernel)) <|
    z_istore (i := 4) (zd (i := .istore 4) (n := 2) (by decide +kernel)) (by decide +kernel) <|
    z_nL0_eq (i := 4) (a1 := 2) (off := 42) (tgt := 84) (zLd_w (i := 4) (zd (i := .iload 4) (n := 2) (by decide +kernel))) (zd (i := .ifCond .eq (42)) (n := 3) (by decide +kernel)) (by decide +kernel) (zj (hj 6) (by decide +kernel)) (zj (hj 4) (by decide +kernel))
noncomputable def b_X9_call_4 : zBl := fun jp K => oAld 0 <| oAld 0 <| oGetR 9 49 <| oIld 1 <| oXald 10 <| oIld 2 <| oAld 0 <| oGetR 9 49 <| oInt 2147483744 <| oXald 10 <| oCv 9 3 gs_X9_sees <| oIf zeq zne (jp 6) (jp 5)
theorem s_X9_call_4 (d : Nat) (hG : zGood gh) : zPb l G gh (d + 7) n_X9_call p_X9_call 45 b_X9_call_4 := fun K jp hj =>
    z_aload_n (n := 0) (i := 0) (zd (i := .aload_n 0) (n := 1) (by decide +kernel)) rfl <|
    z_aload_n (n := 0) (i := 0) (zd (i := .aload_n 0) (n := 1) (by decide +kernel)) rfl <|
    z_getR (ci := 9) (j := 49) (idx := 113) (zd (i := .getfield 113) (n := 3) (by decide +kernel)) (by decide +kernel) (by decide +kernel) rfl g1177 <|
    z_iload_n (n := 1) (i := 1) (zd (i := .iload_n 1) (n := 1) (by decide +kernel)) rfl <|
    z_iald (zd (i := .iaload) (n := 1) (by decide +kernel)) <|
    z_iload_n (n := 2) (i := 2) (zd (i := .iload_n 2) (n := 1) (by decide +kernel)) rfl <|
    z_aload_n (n := 0) (i := 0) (zd (i := .aload_n 0) (n := 1) (by decide +kernel)) rfl <|
    z_getR (ci := 9) (j := 49) (idx := 113) (zd (i := .getfield 113) (n := 3) (by decide +kernel)) (by decide +kernel) (by decide +kernel) rfl g1177 <|
    z_bipush (n := 96) (zd (i := .bipush (96)) (n := 2) (by decide +kernel)) (by decide +kernel) <|
    z_iald (zd (i := .iaload) (n := 1) (by decide +kernel)) <|
    z_callV (idx := 352) (ci := 9) (N := n_X9_sees) (zd (i := .invokevirtual 352) (n := 3) (by decide +kernel)) to_X9_sees g1449 g1451 g68 (by decide +kernel) rfl rfl rfl (cs_X9_sees (l := l) (G := G) (gh := gh) (d) hG) <|
    z_if_eq (off := 21) (tgt := 84) (zd (i := .ifCond .eq (21)) (n := 3) (by decide +kernel)) (by decide +kernel) (zj (hj 6) (by decide +kernel)) (zj (hj 5) (by decide +kernel))
noncomputable def b_X9_call_5 : zBl := fun jp K => oAld 0 <| oGetR 9 49 <| oInt 2147483654 <| oIld 1 <| oB2 zadd <| oXald 10 <| oIld 4 <| oB2 zadd <| oInt 2147583647 <| oIc zle zgt (jp 7) (jp 6)
theorem s_X9_call_5 (d : Nat) (hG : zGood gh) : zPb l G gh (d + 7) n_X9_call p_X9_call 66 b_X9_call_5 := fun K jp hj =>
    z_aload_n (n := 0) (i := 0) (zd (i := .aload_n 0) (n := 1) (by decide +kernel)) rfl <|
    z_getR (ci := 9) (j := 49) (idx := 113) (zd (i := .getfield 113) (n := 3) (by decide +kernel)) (by decide +kernel) (by decide +kernel) rfl g1177 <|
    z_bipush (n := 6) (zd (i := .bipush (6)) (n := 2) (by decide +kernel)) (by decide +kernel) <|
    z_iload_n (n := 1) (i := 1) (zd (i := .iload_n 1) (n := 1) (by decide +kernel)) rfl <|
    z_iadd (zd (i := .iadd) (n := 1) (by decide +kernel)) <|
    z_iald (zd (i := .iaload) (n := 1) (by decide +kernel)) <|
    z_iload (i := 4) (zd (i := .iload 4) (n := 2) (by decide +kernel)) <|
    z_iadd (zd (i := .iadd) (n := 1) (by decide +kernel)) <|
    z_ldcw (n := 351) (zd (i := .ldc_w 351) (n := 3) (by decide +kernel)) g1534 (by decide +kernel) <|
    z_icmp_le (off := 6) (tgt := 87) (zd (i := .if_icmp .le (6)) (n := 3) (by decide +kernel)) (by decide +kernel) (zj (hj 7) (by decide +kernel)) (zj (hj 6) (by decide +kernel))
noncomputable def b_X9_call_6 : zBl := fun jp K => oInt 2147483646 <| oIret K
theorem s_X9_call_6 (d : Nat) (hG : zGood gh) : zPb l G gh (d + 7) n_X9_call p_X9_call 84 b_X9_call_6 := fun K jp hj =>
    z_bipush (n := -2) (zd (i := .bipush (-2)) (n := 2) (by decide +kernel)) (by decide +kernel) <|
    z_iret (zd (i := .ireturn) (n := 1) (by decide +kernel)) rfl
noncomputable def b_X9_call_7 : zBl := fun jp K => oAld 0 <| oGetR 9 49 <| oInt 2147483654 <| oIld 1 <| oB2 zadd <| oDup2 <| oXald 10 <| oIld 4 <| oB2 zadd <| oXast 10 zid <| oAld 0 <| oGetR 9 49 <| oInt 2147483672 <| oIld 3 <| oB2 zadd <| oInt 2147483648 <| oXast 10 zid <| oAld 0 <| oGetR 9 49 <| oInt 2147483708 <| oIld 3 <| oB2 zadd <| oInt 2147483648 <| oXast 10 zid <| oAld 0 <| oCv 9 0 gs_X9_records <| oIld 4 <| oIret K
theorem s_X9_call_7 (d : Nat) (hG : zGood gh) : zPb l G gh (d + 7) n_X9_call p_X9_call 87 b_X9_call_7 := fun K jp hj =>
    z_aload_n (n := 0) (i := 0) (zd (i := .aload_n 0) (n := 1) (by decide +kernel)) rfl <|
    z_getR (ci := 9) (j := 49) (idx := 113) (zd (i := .getfield 113) (n := 3) (by decide +kernel)) (by decide +kernel) (by decide +kernel) rfl g1177 <|
    z_bipush (n := 6) (zd (i := .bipush (6)) (n := 2) (by decide +kernel)) (by decide +kernel) <|
    z_iload_n (n := 1) (i := 1) (zd (i := .iload_n 1) (n := 1) (by decide +kernel)) rfl <|
    z_iadd (zd (i := .iadd) (n := 1) (by decide +kernel)) <|
    z_dup2 (zd (i := .dup2) (n := 1) (by decide +kernel)) <|
    z_iald (zd (i := .iaload) (n := 1) (by decide +kernel)) <|
    z_iload (i := 4) (zd (i := .iload 4) (n := 2) (by decide +kernel)) <|
    z_iadd (zd (i := .iadd) (n := 1) (by decide +kernel)) <|
    z_iast (zd (i := .iastore) (n := 1) (by decide +kernel)) <|
    z_aload_n (n := 0) (i := 0) (zd (i := .aload_n 0) (n := 1) (by decide +kernel)) rfl <|
    z_getR (ci := 9) (j := 49) (idx := 113) (zd (i := .getfield 113) (n := 3) (by decide +kernel)) (by decide +kernel) (by decide +kernel) rfl g1177 <|
    z_bipush (n := 24) (zd (i := .bipush (24)) (n := 2) (by decide +kernel)) (by decide +kernel) <|
    z_iload_n (n := 3) (i := 3) (zd (i := .iload_n 3) (n := 1) (by decide +kernel)) rfl <|
    z_iadd (zd (i := .iadd) (n := 1) (by decide +kernel)) <|
    z_iconst (n := 0) (zd (i := .iconst (0)) (n := 1) (by decide +kernel)) (by decide +kernel) <|
    z_iast (zd (i := .iastore) (n := 1) (by decide +kernel)) <|
    z_aload_n (n := 0) (i := 0) (zd (i := .aload_n 0) (n := 1) (by decide +kernel)) rfl <|
    z_getR (ci := 9) (j := 49) (idx := 113) (zd (i := .getfield 113) (n := 3) (by decide +kernel)) (by decide +kernel) (by decide +kernel) rfl g1177 <|
    z_bipush (n := 60) (zd (i := .bipush (60)) (n := 2) (by decide +kernel)) (by decide +kernel) <|
    z_iload_n (n := 3) (i := 3) (zd (i := .iload_n 3) (n := 1) (by decide +kernel)) rfl <|
    z_iadd (zd (i := .iadd) (n := 1) (by decide +kernel)) <|
    z_iconst (n := 0) (zd (i := .iconst (0)) (n := 1) (by decide +kernel)) (by decide +kernel) <|
    z_iast (zd (i := .iastore) (n := 1) (by decide +kernel)) <|
    z_aload_n (n := 0) (i := 0) (zd (i := .aload_n 0) (n := 1) (by decide +kernel)) rfl <|
    z_callV (idx := 390) (ci := 9) (N := n_X9_records) (zd (i := .invokevirtual 390) (n := 3) (by decide +kernel)) to_X9_records g1526 g1528 g81 (by decide +kernel) rfl rfl rfl (cs_X9_records (l := l) (G := G) (gh := gh) (d + 4)) <|
    z_iload (i := 4) (zd (i := .iload 4) (n := 2) (by decide +kernel)) <|
    z_iret (zd (i := .ireturn) (n := 1) (by decide +kernel)) rfl
noncomputable def t_X9_call : List zBl := [b_X9_call_0, b_X9_call_1, b_X9_call_2, b_X9_call_3, b_X9_call_4, b_X9_call_5, b_X9_call_6, b_X9_call_7]
theorem tt_X9_call (d : Nat) (hG : zGood gh) : zT (zPb l G gh (d + 7) n_X9_call p_X9_call) t_X9_call p_X9_call := ⟨s_X9_call_0 d hG, s_X9_call_1 d hG, s_X9_call_2 d hG, s_X9_call_3 d hG, s_X9_call_4 d hG, s_X9_call_5 d hG, s_X9_call_6 d hG, s_X9_call_7 d hG, trivial⟩
def q_X9_call_0 : List (Nat × Nat) := [(292, zk102), (301, zk107), (302, zk111), (303, zk111), (304, zk107), (310, zk103), (321, zk3), (322, zk116), (323, zk104), (324, zk104), (325, zk108)]
noncomputable def al_X9_call_0 : zAq := [(some (.inl 8589934591), [(292, zk109), (301, zk107), (302, zk111), (303, zk111), (304, zk107), (310, zk103), (321, zk4), (322, zk117), (323, zk106), (324, zk106), (325, zk112)])]
noncomputable def fm_X9_call_0 : List zFm := [(0, [], (fun vs => [.inr (.ref 292), .inl 9223372043297226757, .inl 9223372043297226757]), (fun vs => zP q_X9_call_0), (fun vs => Nat.sub (Nat.add 0 0) 0))]
def bf_X9_call_0 : List Nat := []
theorem r_X9_call_0_0 : zbox [] (fun vs => zFrun (zpost (zAlq al_X9_call_0)) 1000 t_X9_call fm_X9_call_0 bf_X9_call_0 (0, vs)) = true := by decide +kernel
set_option maxRecDepth 100000 in
theorem x_X9_call_0 (d : Nat) (hG : zGood gh) : zS l G gh (d + 7) (zpost (zAlq al_X9_call_0)) n_X9_call (zn 0 p_X9_call 0) (zwc (0, [.inr (.ref 292), .inl 9223372043297226757, .inl 9223372043297226757], zP q_X9_call_0) 0) := zentry (tt_X9_call d hG) fm_X9_call_0 bf_X9_call_0 1000 (by decide +kernel) rfl ⟨Nat.zero_lt_succ _, trivial⟩ (fun f hf => match f, hf with
  | 0, _ => fun vs hv => (zbox_t r_X9_call_0_0) vs hv
  | f + 1, h => absurd (show f + 1 < 1 from h) (Nat.not_lt.mpr (Nat.le_add_left 1 f)))
noncomputable def gs_X9_call_0 : zMt := zgq true zUN 5 [.inr (.ref 292), .inl 9223372043297226757, .inl 9223372043297226757] q_X9_call_0 al_X9_call_0
set_option maxRecDepth 100000 in
theorem cs_X9_call_0 (d : Nat) (hG : zGood gh) : zC l G gh (d + 7) n_X9_call gs_X9_call_0 := zgq_ok zGood_ok (pcs := p_X9_call) (by decide) rfl rfl (fun a ha => by simp only [al_X9_call_0, List.mem_cons, List.not_mem_nil, or_false] at ha; rcases ha with rfl <;> decide +kernel) (fun gh hG => x_X9_call_0 d hG) (by decide +kernel) hG
def q_X9_call_1 : List (Nat × Nat) := [(292, zk102), (301, zk107), (304, zk107)]
noncomputable def al_X9_call_1 : zAq := [(some (.inl 2147483647), [(292, zk102), (301, zk107), (304, zk107)])]
noncomputable def fm_X9_call_1 : List zFm := [(0, [], (fun vs => [.inr (.ref 292), .inl 9223372043297226757, .inl 6442450943]), (fun vs => zP q_X9_call_1), (fun vs => Nat.sub (Nat.add 0 0) 0))]
def bf_X9_call_1 : List Nat := []
theorem r_X9_call_1_0 : zbox [] (fun vs => zFrun (zpost (zAlq al_X9_call_1)) 1000 t_X9_call fm_X9_call_1 bf_X9_call_1 (0, vs)) = true := by decide +kernel
set_option maxRecDepth 100000 in
theorem x_X9_call_1 (d : Nat) (hG : zGood gh) : zS l G gh (d + 7) (zpost (zAlq al_X9_call_1)) n_X9_call (zn 0 p_X9_call 0) (zwc (0, [.inr (.ref 292), .inl 9223372043297226757, .inl 6442450943], zP q_X9_call_1) 0) := zentry (tt_X9_call d hG) fm_X9_call_1 bf_X9_call_1 1000 (by decide +kernel) rfl ⟨Nat.zero_lt_succ _, trivial⟩ (fun f hf => match f, hf with
  | 0, _ => fun vs hv => (zbox_t r_X9_call_1_0) vs hv
  | f + 1, h => absurd (show f + 1 < 1 from h) (Nat.not_lt.mpr (Nat.le_add_left 1 f)))
noncomputable def gs_X9_call_1 : zMt := zgq true zUN 5 [.inr (.ref 292), .inl 9223372043297226757, .inl 6442450943] q_X9_call_1 al_X9_call_1
set_option maxRecDepth 100000 in
theorem cs_X9_call_1 (d : Nat) (hG : zGood gh) : zC l G gh (d + 7) n_X9_call gs_X9_call_1 := zgq_ok zGood_ok (pcs := p_X9_call) (by decide) rfl rfl (fun a ha => by simp only [al_X9_call_1, List.mem_cons, List.not_mem_nil, or_false] at ha; rcases ha with rfl <;> decide +kernel) (fun gh hG => x_X9_call_1 d hG) (by decide +kernel) hG
def q_X9_call_2 : List (Nat × Nat) := [(292, zk102), (301, zk107), (304, zk107)]
noncomputable def al_X9_call_2 : zAq := [(some (.inl 2147483647), [(292, zk102), (301, zk107), (304, zk107)])]
noncomputable def fm_X9_call_2 : List zFm := [(0, [], (fun vs => [.inr (.ref 292), .inl 9223372043297226757, .inl 9223372071214514175]), (fun vs => zP q_X9_call_2), (fun vs => Nat.sub (Nat.add 0 0) 0))]
def bf_X9_call_2 : List Nat := []
theorem r_X9_call_2_0 : zbox [] (fun vs => zFrun (zpost (zAlq al_X9_call_2)) 1000 t_X9_call fm_X9_call_2 bf_X9_call_2 (0, vs)) = true := by decide +kernel
set_option maxRecDepth 100000 in
theorem x_X9_call_2 (d : Nat) (hG : zGood gh) : zS l G gh (d + 7) (zpost (zAlq al_X9_call_2)) n_X9_call (zn 0 p_X9_call 0) (zwc (0, [.inr (.ref 292), .inl 9223372043297226757, .inl 9223372071214514175], zP q_X9_call_2) 0) := zentry (tt_X9_call d hG) fm_X9_call_2 bf_X9_call_2 1000 (by decide +kernel) rfl ⟨Nat.zero_lt_succ _, trivial⟩ (fun f hf => match f, hf with
  | 0, _ => fun vs hv => (zbox_t r_X9_call_2_0) vs hv
  | f + 1, h => absurd (show f + 1 < 1 from h) (Nat.not_lt.mpr (Nat.le_add_left 1 f)))
noncomputable def gs_X9_call_2 : zMt := zgq true zUN 5 [.inr (.ref 292), .inl 9223372043297226757, .inl 9223372071214514175] q_X9_call_2 al_X9_call_2
set_option maxRecDepth 100000 in
theorem cs_X9_call_2 (d : Nat) (hG : zGood gh) : zC l G gh (d + 7) n_X9_call gs_X9_call_2 := zgq_ok zGood_ok (pcs := p_X9_call) (by decide) rfl rfl (fun a ha => by simp only [al_X9_call_2, List.mem_cons, List.not_mem_nil, or_false] at ha; rcases ha with rfl <;> decide +kernel) (fun gh hG => x_X9_call_2 d hG) (by decide +kernel) hG
def q_X9_call_3 : List (Nat × Nat) := [(292, zk102), (304, zk107)]
noncomputable def al_X9_call_3 : zAq := [(some (.inl 2147483647), [(292, zk102), (304, zk107)])]
noncomputable def fm_X9_call_3 : List zFm := [(0, [], (fun vs => [.inr (.ref 292), .inl 6442450943, .inl 8589934591]), (fun vs => zP q_X9_call_3), (fun vs => Nat.sub (Nat.add 0 0) 0))]
def bf_X9_call_3 : List Nat := []
theorem r_X9_call_3_0 : zbox [] (fun vs => zFrun (zpost (zAlq al_X9_call_3)) 1000 t_X9_call fm_X9_call_3 bf_X9_call_3 (0, vs)) = true := by decide +kernel
set_option maxRecDepth 100000 in
theorem x_X9_call_3 (d : Nat) (hG : zGood gh) : zS l G gh (d + 7) (zpost (zAlq al_X9_call_3)) n_X9_call (zn 0 p_X9_call 0) (zwc (0, [.inr (.ref 292), .inl 6442450943, .inl 8589934591], zP q_X9_call_3) 0) := zentry (tt_X9_call d hG) fm_X9_call_3 bf_X9_call_3 1000 (by decide +kernel) rfl ⟨Nat.zero_lt_succ _, trivial⟩ (fun f hf => match f, hf with
  | 0, _ => fun vs hv => (zbox_t r_X9_call_3_0) vs hv
  | f + 1, h => absurd (show f + 1 < 1 from h) (Nat.not_lt.mpr (Nat.le_add_left 1 f)))
noncomputable def gs_X9_call_3 : zMt := zgq true zUN 5 [.inr (.ref 292), .inl 6442450943, .inl 8589934591] q_X9_call_3 al_X9_call_3
set_option maxRecDepth 100000 in
theorem cs_X9_call_3 (d : Nat) (hG : zGood gh) : zC l G gh (d + 7) n_X9_call gs_X9_call_3 := zgq_ok zGood_ok (pcs := p_X9_call) (by decide) rfl rfl (fun a ha => by simp only [al_X9_call_3, List.mem_cons, List.not_mem_nil, or_false] at ha; rcases ha with rfl <;> decide +kernel) (fun gh hG => x_X9_call_3 d hG) (by decide +kernel) hG
def q_X9_call_4 : List (Nat × Nat) := [(292, zk102), (304, zk107)]
noncomputable def al_X9_call_4 : zAq := [(some (.inl 2147483647), [(292, zk102), (304, zk107)])]
noncomputable def fm_X9_call_4 : List zFm := [(0, [], (fun vs => [.inr (.ref 292), .inl 9223372071214514175, .inl 8589934591]), (fun vs => zP q_X9_call_4), (fun vs => Nat.sub (Nat.add 0 0) 0))]
def bf_X9_call_4 : List Nat := []
theorem r_X9_call_4_0 : zbox [] (fun vs => zFrun (zpost (zAlq al_X9_call_4)) 1000 t_X9_call fm_X9_call_4 bf_X9_call_4 (0, vs)) = true := by decide +kernel
set_option maxRecDepth 100000 in
theorem x_X9_call_4 (d : Nat) (hG : zGood gh) : zS l G gh (d + 7) (zpost (zAlq al_X9_call_4)) n_X9_call (zn 0 p_X9_call 0) (zwc (0, [.inr (.ref 292), .inl 9223372071214514175, .inl 8589934591], zP q_X9_call_4) 0) := zentry (tt_X9_call d hG) fm_X9_call_4 bf_X9_call_4 1000 (by decide +kernel) rfl ⟨Nat.zero_lt_succ _, trivial⟩ (fun f hf => match f, hf with
  | 0, _ => fun vs hv => (zbox_t r_X9_call_4_0) vs hv
  | f + 1, h => absurd (show f + 1 < 1 from h) (Nat.not_lt.mpr (Nat.le_add_left 1 f)))
noncomputable def gs_X9_call_4 : zMt := zgq true zUN 5 [.inr (.ref 292), .inl 9223372071214514175, .inl 8589934591] q_X9_call_4 al_X9_call_4
set_option maxRecDepth 100000 in
theorem cs_X9_call_4 (d : Nat) (hG : zGood gh) : zC l G gh (d + 7) n_X9_call gs_X9_call_4 := zgq_ok zGood_ok (pcs := p_X9_call) (by decide) rfl rfl (fun a ha => by simp only [al_X9_call_4, List.mem_cons, List.not_mem_nil, or_false] at ha; rcases ha with rfl <;> decide +kernel) (fun gh hG => x_X9_call_4 d hG) (by decide +kernel) hG
noncomputable def gs_X9_call : zMt := (zor gs_X9_call_0 (zor gs_X9_call_1 (zor gs_X9_call_2 (zor gs_X9_call_3 gs_X9_call_4))))
theorem cs_X9_call (d : Nat) (hG : zGood gh) : zC l G gh (d + 7) n_X9_call gs_X9_call := (zor_ok (cs_X9_call_0 d hG) (zor_ok (cs_X9_call_1 d hG) (zor_ok (cs_X9_call_2 d hG) (zor_ok (cs_X9_call_3 d hG) (cs_X9_call_4 d hG)))))
def p_X9_loanGoes : List Nat := [0, 21, 37, 97, 116, 152, 179]
noncomputable def b_X9_loanGoes_0 : zBl := fun jp K => oInt 2147483654 <| oIld 1 <| oB2 zimul <| oIld 2 <| oB2 zadd <| oIst 4 <| oAld 0 <| oGetR 9 49 <| oInt 2147483744 <| oXald 10 <| oIst 5 <| oNLC 3 2147483648 zneN zeqN zn1_ne zn1_eq (jp 4) (jp 1)
theorem s_X9_loanGoes_0 (d : Nat) (hG : zGood gh) : zPb l G gh (d + 7) n_X9_loanGoes p_X9_loanGoes 0 b_X9_loanGoes_0 := fun K jp hj =>
    z_bipush (n := 6) (zd (i := .bipush (6)) (n := 2) (by decide +kernel)) (by decide +kernel) <|
    z_iload_n (n := 1) (i := 1) (zd (i := .iload_n 1) (n := 1) (by decide +kernel)) rfl <|
    z_imul (zd (i := .imul) (n := 1) (by decide +kernel)) <|
    z_iload_n (n := 2) (i := 2) (zd (i := .iload_n 2) (n := 1) (by decide +kernel)) rfl <|
    z_iadd (zd (i := .iadd) (n := 1) (by decide +kernel)) <|
    z_istore (i := 4) (zd (i := .istore 4) (n := 2) (by decide +kernel)) (by decide +kernel) <|
    z_aload_n (n := 0) (i := 0) (zd (i := .aload_n 0) (n := 1) (by decide +kernel)) rfl <|
    z_getR (ci := 9) (j := 49) (idx := 113) (zd (i := .getfield 113) (n := 3) (by decide +kernel)) (by decide +kernel) (by decide +kernel) rfl g1177 <|
    z_bipush (n := 96) (zd (i := .bipush (96)) (n := 2) (by decide +kernel)) (by decide +kernel) <|
    z_iald (zd (i := .iaload) (n := 1) (by decide +kernel)) <|
    z_istore (i := 5) (zd (i := .istore 5) (n := 2) (by decide +kernel)) (by decide +kernel) <|
    z_nL0_ne (i := 3) (a1 := 1) (off := 98) (tgt := 116) (zLd_n (n := 3) (i := 3) (zd (i := .iload_n 3) (n := 1) (by decide +kernel)) rfl) (zd (i := .ifCond .ne (98)) (n := 3) (by decide +kernel)) (by decide +kernel) (zj (hj 4) (by decide +kernel)) (zj (hj 1) (by decide +kernel))
noncomputable def b_X9_loanGoes_1 : zBl := fun jp K => oAld 0 <| oAld 0 <| oGetR 9 49 <| oIld 1 <| oXald 10 <| oIld 2 <| oIld 5 <| oCv 9 3 gs_X9_sees <| oIf zeq zne (jp 4) (jp 2)
theorem s_X9_loanGoes_1 (d : Nat) (hG : zGood gh) : zPb l G gh (d + 7) n_X9_loanGoes p_X9_loanGoes 21 b_X9_loanGoes_1 := fun K jp hj =>
    z_aload_n (n := 0) (i := 0) (zd (i := .aload_n 0) (n := 1) (by decide +kernel)) rfl <|
    z_aload_n (n := 0) (i := 0) (zd (i := .aload_n 0) (n := 1) (by decide +kernel)) rfl <|
    z_getR (ci := 9) (j := 49) (idx := 113) (zd (i := .getfield 113) (n := 3) (by decide +kernel)) (by decide +kernel) (by decide +kernel) rfl g1177 <|
    z_iload_n (n := 1) (i := 1) (zd (i := .iload_n 1) (n := 1) (by decide +kernel)) rfl <|
    z_iald (zd (i := .iaload) (n := 1) (by decide +kernel)) <|
    z_iload_n (n := 2) (i := 2) (zd (i := .iload_n 2) (n := 1) (by decide +kernel)) rfl <|
    z_iload (i := 5) (zd (i := .iload 5) (n := 2) (by decide +kernel)) <|
    z_callV (idx := 352) (ci := 9) (N := n_X9_sees) (zd (i := .invokevirtual 352) (n := 3) (by decide +kernel)) to_X9_sees g1449 g1451 g68 (by decide +kernel) rfl rfl rfl (cs_X9_sees (l := l) (G := G) (gh := gh) (d) hG) <|
    z_if_eq (off := 82) (tgt := 116) (zd (i := .ifCond .eq (82)) (n := 3) (by decide +kernel)) (by decide +kernel) (zj (hj 4) (by decide +kernel)) (zj (hj 2) (by decide +kernel))
noncomputable def b_X9_loanGoes_2 : zBl := fun jp K => oAld 0 <| oAld 0 <| oGetR 9 49 <| oIld 1 <| oXald 10 <| oIld 2 <| oAld 0 <| oGetR 9 49 <| oInt 2147483672 <| oIld 4 <| oB2 zadd <| oXald 10 <| oIld 5 <| oCv 9 4 gs_X9_rentOf <| oIst 6 <| oAld 0 <| oGetR 9 49 <| oInt 2147483654 <| oIld 1 <| oB2 zadd <| oAld 0 <| oGetR 9 49 <| oInt 2147483654 <| oIld 1 <| oB2 zadd <| oXald 10 <| oIld 6 <| oB2 zadd <| oInt 2147483648 <| oInt 2147583647 <| oCs 3 f_X9_held <| oXast 10 zid <| oAld 0 <| oGetR 9 49 <| oInt 2147483666 <| oIld 1 <| jp 3
theorem s_X9_loanGoes_2 (d : Nat) (hG : zGood gh) : zPb l G gh (d + 7) n_X9_loanGoes p_X9_loanGoes 37 b_X9_loanGoes_2 := fun K jp hj =>
    z_aload_n (n := 0) (i := 0) (zd (i := .aload_n 0) (n := 1) (by decide +kernel)) rfl <|
    z_aload_n (n := 0) (i := 0) (zd (i := .aload_n 0) (n := 1) (by decide +kernel)) rfl <|
    z_getR (ci := 9) (j := 49) (idx := 113) (zd (i := .getfield 113) (n := 3) (by decide +kernel)) (by decide +kernel) (by decide +kernel) rfl g1177 <|
    z_iload_n (n := 1) (i := 1) (zd (i := .iload_n 1) (n := 1) (by decide +kernel)) rfl <|
    z_iald (zd (i := .iaload) (n := 1) (by decide +kernel)) <|
    z_iload_n (n := 2) (i := 2) (zd (i := .iload_n 2) (n := 1) (by decide +kernel)) rfl <|
    z_aload_n (n := 0) (i := 0) (zd (i := .aload_n 0) (n := 1) (by decide +kernel)) rfl <|
    z_getR (ci := 9) (j := 49) (idx := 113) (zd (i := .getfield 113) (n := 3) (by decide +kernel)) (by decide +kernel) (by decide +kernel) rfl g1177 <|
    z_bipush (n := 24) (zd (i := .bipush (24)) (n := 2) (by decide +kernel)) (by decide +kernel) <|
    z_iload (i := 4) (zd (i := .iload 4) (n := 2) (by decide +kernel)) <|
    z_iadd (zd (i := .iadd) (n := 1) (by decide +kernel)) <|
    z_iald (zd (i := .iaload) (n := 1) (by decide +kernel)) <|
    z_iload (i := 5) (zd (i := .iload 5) (n := 2) (by decide +kernel)) <|
    z_callV (idx := 355) (ci := 9) (N := n_X9_rentOf) (zd (i := .invokevirtual 355) (n := 3) (by decide +kernel)) to_X9_rentOf g1514 g1516 g79 (by decide +kernel) rfl rfl rfl (cs_X9_rentOf (l := l) (G := G) (gh := gh) (d + 1) hG) <|
    z_istore (i := 6) (zd (i := .istore 6) (n := 2) (by decide +kernel)) (by decide +kernel) <|
    z_aload_n (n := 0) (i := 0) (zd (i := .aload_n 0) (n := 1) (by decide +kernel)) rfl <|
    z_getR (ci := 9) (j := 49) (idx := 113) (zd (i := .getfield 113) (n := 3) (by decide +kernel)) (by decide +kernel) (by decide +kernel) rfl g1177 <|
    z_bipush (n := 6) (zd (i := .bipush (6)) (n := 2) (by decide +kernel)) (by decide +kernel) <|
    z_iload_n (n := 1) (i := 1) (zd (i := .iload_n 1) (n := 1) (by decide +kernel)) rfl <|
    z_iadd (zd (i := .iadd) (n := 1) (by decide +kernel)) <|
    z_aload_n (n := 0) (i := 0) (zd (i := .aload_n 0) (n := 1) (by decide +kernel)) rfl <|
    z_getR (ci := 9) (j := 49) (idx := 113) (zd (i := .getfield 113) (n := 3) (by decide +kernel)) (by decide +kernel) (by decide +kernel) rfl g1177 <|
    z_bipush (n := 6) (zd (i := .bipush (6)) (n := 2) (by decide +kernel)) (by decide +kernel) <|
    z_iload_n (n := 1) (i := 1) (zd (i := .iload_n 1) (n := 1) (by decide +kernel)) rfl <|
    z_iadd (zd (i := .iadd) (n := 1) (by decide +kernel)) <|
    z_iald (zd (i := .iaload) (n := 1) (by decide +kernel)) <|
    z_iload (i := 6) (zd (i := .iload 6) (n := 2) (by decide +kernel)) <|
    z_iadd (zd (i := .iadd) (n := 1) (by decide +kernel)) <|
    z_iconst (n := 0) (zd (i := .iconst (0)) (n := 1) (by decide +kernel)) (by decide +kernel) <|
    z_ldcw (n := 351) (zd (i := .ldc_w 351) (n := 3) (by decide +kernel)) g1534 (by decide +kernel) <|
    z_callS (idx := 324) (N := n_X9_held) (zd (i := .invokestatic 324) (n := 3) (by decide +kernel)) to_X9_held g1477 g1478 rfl rfl (c_X9_held (l := l) (G := G) (gh := gh) (d + 5)) <|
    z_iast (zd (i := .iastore) (n := 1) (by decide +kernel)) <|
    z_aload_n (n := 0) (i := 0) (zd (i := .aload_n 0) (n := 1) (by decide +kernel)) rfl <|
    z_getR (ci := 9) (j := 49) (idx := 113) (zd (i := .getfield 113) (n := 3) (by decide +kernel)) (by decide +kernel) (by decide +kernel) rfl g1177 <|
    z_bipush (n := 18) (zd (i := .bipush (18)) (n := 2) (by decide +kernel)) (by decide +kernel) <|
    z_iload_n (n := 1) (i := 1) (zd (i := .iload_n 1) (n := 1) (by decide +kernel)) rfl <|
    (zj (hj 3) (by decide +kernel))
noncomputable def b_X9_loanGoes_3 : zBl := fun jp K => oB2 zadd <| oDup2 <| oXald 10 <| oIld 6 <| oB2 zadd <| oXast 10 zid <| oAld 0 <| oGetR 9 49 <| oInt 2147483708 <| oIld 4 <| oB2 zadd <| oInt 2147483648 <| oXast 10 zid <| oVret K
theorem s_X9_loanGoes_3 (d : Nat) (hG : zGood gh) : zPb l G gh (d + 7) n_X9_loanGoes p_X9_loanGoes 97 b_X9_loanGoes_3 := fun K jp hj =>
    z_iadd (zd (i := .iadd) (n := 1) (by decide +kernel)) <|
    z_dup2 (zd (i := .dup2) (n := 1) (by decide +kernel)) <|
    z_iald (zd (i := .iaload) (n := 1) (by decide +kernel)) <|
    z_iload (i := 6) (zd (i := .iload 6) (n := 2) (by decide +kernel)) <|
    z_iadd (zd (i := .iadd) (n := 1) (by decide +kernel)) <|
    z_iast (zd (i := .iastore) (n := 1) (by decide +kernel)) <|
    z_aload_n (n := 0) (i := 0) (zd (i := .aload_n 0) (n := 1) (by decide +kernel)) rfl <|
    z_getR (ci := 9) (j := 49) (idx := 113) (zd (i := .getfield 113) (n := 3) (by decide +kernel)) (by decide +kernel) (by decide +kernel) rfl g1177 <|
    z_bipush (n := 60) (zd (i := .bipush (60)) (n := 2) (by decide +kernel)) (by decide +kernel) <|
    z_iload (i := 4) (zd (i := .iload 4) (n := 2) (by decide +kernel)) <|
    z_iadd (zd (i := .iadd) (n := 1) (by decide +kernel)) <|
    z_iconst (n := 0) (zd (i := .iconst (0)) (n := 1) (by decide +kernel)) (by decide +kernel) <|
    z_iast (zd (i := .iastore) (n := 1) (by decide +kernel)) <|
    z_vret (zd (i := .return_) (n := 1) (by decide +kernel)) rfl
noncomputable def b_X9_loanGoes_4 : zBl := fun jp K => oAld 0 <| oGetR 9 49 <| oInt 2147483708 <| oIld 4 <| oB2 zadd <| oDup2 <| oXald 10 <| oInt 2147483649 <| oB2 zadd <| oXast 10 zid <| oAld 0 <| oGetR 9 49 <| oInt 2147483708 <| oIld 4 <| oB2 zadd <| oXald 10 <| oAld 0 <| oGetR 9 28 <| oAld 0 <| oGetI 9 18 <| oXald 10 <| oIc zge zlt (jp 6) (jp 5)
theorem s_X9_loanGoes_4 (d : Nat) (hG : zGood gh) : zPb l G gh (d + 7) n_X9_loanGoes p_X9_loanGoes 116 b_X9_loanGoes_4 := fun K jp hj =>
    z_aload_n (n := 0) (i := 0) (zd (i := .aload_n 0) (n := 1) (by decide +kernel)) rfl <|
    z_getR (ci := 9) (j := 49) (idx := 113) (zd (i := .getfield 113) (n := 3) (by decide +kernel)) (by decide +kernel) (by decide +kernel) rfl g1177 <|
    z_bipush (n := 60) (zd (i := .bipush (60)) (n := 2) (by decide +kernel)) (by decide +kernel) <|
    z_iload (i := 4) (zd (i := .iload 4) (n := 2) (by decide +kernel)) <|
    z_iadd (zd (i := .iadd) (n := 1) (by decide +kernel)) <|
    z_dup2 (zd (i := .dup2) (n := 1) (by decide +kernel)) <|
    z_iald (zd (i := .iaload) (n := 1) (by decide +kernel)) <|
    z_iconst (n := 1) (zd (i := .iconst (1)) (n := 1) (by decide +kernel)) (by decide +kernel) <|
    z_iadd (zd (i := .iadd) (n := 1) (by decide +kernel)) <|
    z_iast (zd (i := .iastore) (n := 1) (by decide +kernel)) <|
    z_aload_n (n := 0) (i := 0) (zd (i := .aload_n 0) (n := 1) (by decide +kernel)) rfl <|
    z_getR (ci := 9) (j := 49) (idx := 113) (zd (i := .getfield 113) (n := 3) (by decide +kernel)) (by decide +kernel) (by decide +kernel) rfl g1177 <|
    z_bipush (n := 60) (zd (i := .bipush (60)) (n := 2) (by decide +kernel)) (by decide +kernel) <|
    z_iload (i := 4) (zd (i := .iload 4) (n := 2) (by decide +kernel)) <|
    z_iadd (zd (i := .iadd) (n := 1) (by decide +kernel)) <|
    z_iald (zd (i := .iaload) (n := 1) (by decide +kernel)) <|
    z_aload_n (n := 0) (i := 0) (zd (i := .aload_n 0) (n := 1) (by decide +kernel)) rfl <|
    z_getR (ci := 9) (j := 28) (idx := 61) (zd (i := .getfield 61) (n := 3) (by decide +kernel)) (by decide +kernel) (by decide +kernel) rfl g1156 <|
    z_aload_n (n := 0) (i := 0) (zd (i := .aload_n 0) (n := 1) (by decide +kernel)) rfl <|
    z_getI (ci := 9) (j := 18) (idx := 230) (zd (i := .getfield 230) (n := 3) (by decide +kernel)) (by decide +kernel) (by decide +kernel) rfl g1146 <|
    z_iald (zd (i := .iaload) (n := 1) (by decide +kernel)) <|
    z_icmp_ge (off := 30) (tgt := 179) (zd (i := .if_icmp .ge (30)) (n := 3) (by decide +kernel)) (by decide +kernel) (zj (hj 6) (by decide +kernel)) (zj (hj 5) (by decide +kernel))
noncomputable def b_X9_loanGoes_5 : zBl := fun jp K => oAld 0 <| oGetR 9 49 <| oInt 2147483672 <| oIld 4 <| oB2 zadd <| oAld 0 <| oAld 0 <| oGetR 9 49 <| oInt 2147483672 <| oIld 4 <| oB2 zadd <| oXald 10 <| oIld 5 <| oCv 9 2 gs_X9_grows <| oXast 10 zid <| oVret K
theorem s_X9_loanGoes_5 (d : Nat) (hG : zGood gh) : zPb l G gh (d + 7) n_X9_loanGoes p_X9_loanGoes 152 b_X9_loanGoes_5 := fun K jp hj =>
    z_aload_n (n := 0) (i := 0) (zd (i := .aload_n 0) (n := 1) (by decide +kernel)) rfl <|
    z_getR (ci := 9) (j := 49) (idx := 113) (zd (i := .getfield 113) (n := 3) (by decide +kernel)) (by decide +kernel) (by decide +kernel) rfl g1177 <|
    z_bipush (n := 24) (zd (i := .bipush (24)) (n := 2) (by decide +kernel)) (by decide +kernel) <|
    z_iload (i := 4) (zd (i := .iload 4) (n := 2) (by decide +kernel)) <|
    z_iadd (zd (i := .iadd) (n := 1) (by decide +kernel)) <|
    z_aload_n (n := 0) (i := 0) (zd (i := .aload_n 0) (n := 1) (by decide +kernel)) rfl <|
    z_aload_n (n := 0) (i := 0) (zd (i := .aload_n 0) (n := 1) (by decide +kernel)) rfl <|
    z_getR (ci := 9) (j := 49) (idx := 113) (zd (i := .getfield 113) (n := 3) (by decide +kernel)) (by decide +kernel) (by decide +kernel) rfl g1177 <|
    z_bipush (n := 24) (zd (i := .bipush (24)) (n := 2) (by decide +kernel)) (by decide +kernel) <|
    z_iload (i := 4) (zd (i := .iload 4) (n := 2) (by decide +kernel)) <|
    z_iadd (zd (i := .iadd) (n := 1) (by decide +kernel)) <|
    z_iald (zd (i := .iaload) (n := 1) (by decide +kernel)) <|
    z_iload (i := 5) (zd (i := .iload 5) (n := 2) (by decide +kernel)) <|
    z_callV (idx := 358) (ci := 9) (N := n_X9_grows) (zd (i := .invokevirtual 358) (n := 3) (by decide +kernel)) to_X9_grows g1566 g1568 g86 (by decide +kernel) rfl rfl rfl (cs_X9_grows (l := l) (G := G) (gh := gh) (d + 1) hG) <|
    z_iast (zd (i := .iastore) (n := 1) (by decide +kernel)) <|
    z_vret (zd (i := .return_) (n := 1) (by decide +kernel)) rfl
noncomputable def b_X9_loanGoes_6 : zBl := fun jp K => oAld 0 <| oGetR 9 49 <| oInt 2147483672 <| oIld 4 <| oB2 zadd <| oInt 2147483648 <| oXast 10 zid <| oAld 0 <| oGetR 9 49 <| oInt 2147483708 <| oIld 4 <| oB2 zadd <| oInt 2147483648 <| oXast 10 zid <| oAld 0 <| oGetR 9 49 <| oInt 2147483660 <| oIld 1 <| oB2 zadd <| oDup2 <| oXald 10 <| oInt 2147483649 <| oB2 zadd <| oXast 10 zid <| oVret K
theorem s_X9_loanGoes_6 (d : Nat) (hG : zGood gh) : zPb l G gh (d + 7) n_X9_loanGoes p_X9_loanGoes 179 b_X9_loanGoes_6 := fun K jp hj =>
    z_aload_n (n := 0) (i := 0) (zd (i := .aload_n 0) (n := 1) (by decide +kernel)) rfl <|
    z_getR (ci := 9) (j := 49) (idx := 113) (zd (i := .getfield 113) (n := 3) (by decide +kernel)) (by decide +kernel) (by decide +kernel) rfl g1177 <|
    z_bipush (n := 24) (zd (i := .bipush (24)) (n := 2) (by decide +kernel)) (by decide +kernel) <|
    z_iload (i := 4) (zd (i := .iload 4) (n := 2) (by decide +kernel)) <|
    z_iadd (zd (i := .iadd) (n := 1) (by decide +kernel)) <|
    z_iconst (n := 0) (zd (i := .iconst (0)) (n := 1) (by decide +kernel)) (by decide +kernel) <|
    z_iast (zd (i := .iastore) (n := 1) (by decide +kernel)) <|
    z_aload_n (n := 0) (i := 0) (zd (i := .aload_n 0) (n := 1) (by decide +kernel)) rfl <|
    z_getR (ci := 9) (j := 49) (idx := 113) (zd (i := .getfield 113) (n := 3) (by decide +kernel)) (by decide +kernel) (by decide +kernel) rfl g1177 <|
    z_bipush (n := 60) (zd (i := .bipush (60)) (n := 2) (by decide +kernel)) (by decide +kernel) <|
    z_iload (i := 4) (zd (i := .iload 4) (n := 2) (by decide +kernel)) <|
    z_iadd (zd (i := .iadd) (n := 1) (by decide +kernel)) <|
    z_iconst (n := 0) (zd (i := .iconst (0)) (n := 1) (by decide +kernel)) (by decide +kernel) <|
    z_iast (zd (i := .iastore) (n := 1) (by decide +kernel)) <|
    z_aload_n (n := 0) (i := 0) (zd (i := .aload_n 0) (n := 1) (by decide +kernel)) rfl <|
    z_getR (ci := 9) (j := 49) (idx := 113) (zd (i := .getfield 113) (n := 3) (by decide +kernel)) (by decide +kernel) (by decide +kernel) rfl g1177 <|
    z_bipush (n := 12) (zd (i := .bipush (12)) (n := 2) (by decide +kernel)) (by decide +kernel) <|
    z_iload_n (n := 1) (i := 1) (zd (i := .iload_n 1) (n := 1) (by decide +kernel)) rfl <|
    z_iadd (zd (i := .iadd) (n := 1) (by decide +kernel)) <|
    z_dup2 (zd (i := .dup2) (n := 1) (by decide +kernel)) <|
    z_iald (zd (i := .iaload) (n := 1) (by decide +kernel)) <|
    z_iconst (n := 1) (zd (i := .iconst (1)) (n := 1) (by decide +kernel)) (by decide +kernel) <|
    z_iadd (zd (i := .iadd) (n := 1) (by decide +kernel)) <|
    z_iast (zd (i := .iastore) (n := 1) (by decide +kernel)) <|
    z_vret (zd (i := .return_) (n := 1) (by decide +kernel)) rfl
noncomputable def t_X9_loanGoes : List zBl := [b_X9_loanGoes_0, b_X9_loanGoes_1, b_X9_loanGoes_2, b_X9_loanGoes_3, b_X9_loanGoes_4, b_X9_loanGoes_5, b_X9_loanGoes_6]
theorem tt_X9_loanGoes (d : Nat) (hG : zGood gh) : zT (zPb l G gh (d + 7) n_X9_loanGoes p_X9_loanGoes) t_X9_loanGoes p_X9_loanGoes := ⟨s_X9_loanGoes_0 d hG, s_X9_loanGoes_1 d hG, s_X9_loanGoes_2 d hG, s_X9_loanGoes_3 d hG, s_X9_loanGoes_4 d hG, s_X9_loanGoes_5 d hG, s_X9_loanGoes_6 d hG, trivial⟩
def q_X9_loanGoes_0 : List (Nat × Nat) := [(292, zk102), (302, zk111), (303, zk111), (307, zk103), (321, zk3), (322, zk116), (324, zk104)]
noncomputable def al_X9_loanGoes_0 : zAq := [(none, [(292, zk105), (302, zk111), (303, zk111), (307, zk103), (321, zk4), (322, zk117), (324, zk106)])]
noncomputable def fm_X9_loanGoes_0 : List zFm := [(0, [], (fun vs => [.inr (.ref 292), .inl 9223372043297226757, .inl 9223372043297226757, .inl 9223372043297226753]), (fun vs => zP q_X9_loanGoes_0), (fun vs => Nat.sub (Nat.add 0 0) 0))]
def bf_X9_loanGoes_0 : List Nat := []
theorem r_X9_loanGoes_0_0 : zbox [] (fun vs => zFrun (zpost (zAlq al_X9_loanGoes_0)) 1000 t_X9_loanGoes fm_X9_loanGoes_0 bf_X9_loanGoes_0 (0, vs)) = true := by decide +kernel
set_option maxRecDepth 100000 in
theorem x_X9_loanGoes_0 (d : Nat) (hG : zGood gh) : zS l G gh (d + 7) (zpost (zAlq al_X9_loanGoes_0)) n_X9_loanGoes (zn 0 p_X9_loanGoes 0) (zwc (0, [.inr (.ref 292), .inl 9223372043297226757, .inl 9223372043297226757, .inl 9223372043297226753], zP q_X9_loanGoes_0) 0) := zentry (tt_X9_loanGoes d hG) fm_X9_loanGoes_0 bf_X9_loanGoes_0 1000 (by decide +kernel) rfl ⟨Nat.zero_lt_succ _, trivial⟩ (fun f hf => match f, hf with
  | 0, _ => fun vs hv => (zbox_t r_X9_loanGoes_0_0) vs hv
  | f + 1, h => absurd (show f + 1 < 1 from h) (Nat.not_lt.mpr (Nat.le_add_left 1 f)))
noncomputable def gs_X9_loanGoes_0 : zMt := zgq true zUN 7 [.inr (.ref 292), .inl 9223372043297226757, .inl 9223372043297226757, .inl 9223372043297226753] q_X9_loanGoes_0 al_X9_loanGoes_0
set_option maxRecDepth 100000 in
theorem cs_X9_loanGoes_0 (d : Nat) (hG : zGood gh) : zC l G gh (d + 7) n_X9_loanGoes gs_X9_loanGoes_0 := zgq_ok zGood_ok (pcs := p_X9_loanGoes) (by decide) rfl rfl (fun a ha => by simp only [al_X9_loanGoes_0, List.mem_cons, List.not_mem_nil, or_false] at ha; rcases ha with rfl <;> decide +kernel) (fun gh hG => x_X9_loanGoes_0 d hG) (by decide +kernel) hG
noncomputable def gs_X9_loanGoes : zMt := gs_X9_loanGoes_0
theorem cs_X9_loanGoes (d : Nat) (hG : zGood gh) : zC l G gh (d + 7) n_X9_loanGoes gs_X9_loanGoes := (cs_X9_loanGoes_0 d hG)
def p_X9_sightOf : List Nat := [0]
noncomputable def b_X9_sightOf_0 : zBl := fun jp K => oAld 0 <| oIld 1 <| oAld 0 <| oGetR 9 23 <| oInt 2147483654 <| oAld 0 <| oGetI 9 18 <| oB2 zimul <| oIld 2 <| oB2 zadd <| oXald 10 <| oAld 0 <| oGetR 9 24 <| oInt 2147483654 <| oAld 0 <| oGetI 9 18 <| oB2 zimul <| oIld 2 <| oB2 zadd <| oXald 10 <| oIld 3 <| oCv 9 4 gs_X9_seenAt <| oIret K
theorem s_X9_sightOf_0 (d : Nat) (hG : zGood gh) : zPb l G gh (d + 7) n_X9_sightOf p_X9_sightOf 0 b_X9_sightOf_0 := fun K jp hj =>
    z_aload_n (n := 0) (i := 0) (zd (i := .aload_n 0) (n := 1) (by decide +kernel)) rfl <|
    z_iload_n (n := 1) (i := 1) (zd (i := .iload_n 1) (n := 1) (by decide +kernel)) rfl <|
    z_aload_n (n := 0) (i := 0) (zd (i := .aload_n 0) (n := 1) (by decide +kernel)) rfl <|
    z_getR (ci := 9) (j := 23) (idx := 46) (zd (i := .getfield 46) (n := 3) (by decide +kernel)) (by decide +kernel) (by decide +kernel) rfl g1151 <|
    z_bipush (n := 6) (zd (i := .bipush (6)) (n := 2) (by decide +kernel)) (by decide +kernel) <|
    z_aload_n (n := 0) (i := 0) (zd (i := .aload_n 0) (n := 1) (by decide +kernel)) rfl <|
    z_getI (ci := 9) (j := 18) (idx := 230) (zd (i := .getfield 230) (n := 3) (by decide +kernel)) (by decide +kernel) (by decide +kernel) rfl g1146 <|
    z_imul (zd (i := .imul) (n := 1) (by decide +kernel)) <|
    z_iload_n (n := 2) (i := 2) (zd (i := .iload_n 2) (n := 1) (by decide +kernel)) rfl <|
    z_iadd (zd (i := .iadd) (n := 1) (by decide +kernel)) <|
    z_iald (zd (i := .iaload) (n := 1) (by decide +kernel)) <|
    z_aload_n (n := 0) (i := 0) (zd (i := .aload_n 0) (n := 1) (by decide +kernel)) rfl <|
    z_getR (ci := 9) (j := 24) (idx := 49) (zd (i := .getfield 49) (n := 3) (by decide +kernel)) (by decide +kernel) (by decide +kernel) rfl g1152 <|
    z_bipush (n := 6) (zd (i := .bipush (6)) (n := 2) (by decide +kernel)) (by decide +kernel) <|
    z_aload_n (n := 0) (i := 0) (zd (i := .aload_n 0) (n := 1) (by decide +kernel)) rfl <|
    z_getI (ci := 9) (j := 18) (idx := 230) (zd (i := .getfield 230) (n := 3) (by decide +kernel)) (by decide +kernel) (by decide +kernel) rfl g1146 <|
    z_imul (zd (i := .imul) (n := 1) (by decide +kernel)) <|
    z_iload_n (n := 2) (i := 2) (zd (i := .iload_n 2) (n := 1) (by decide +kernel)) rfl <|
    z_iadd (zd (i := .iadd) (n := 1) (by decide +kernel)) <|
    z_iald (zd (i := .iaload) (n := 1) (by decide +kernel)) <|
    z_iload_n (n := 3) (i := 3) (zd (i := .iload_n 3) (n := 1) (by decide +kernel)) rfl <|
    z_callV (idx := 345) (ci := 9) (N := n_X9_seenAt) (zd (i := .invokevirtual 345) (n := 3) (by decide +kernel)) to_X9_seenAt g1582 g1584 g88 (by decide +kernel) rfl rfl rfl (cs_X9_seenAt (l := l) (G := G) (gh := gh) (d) hG) <|
    z_iret (zd (i := .ireturn) (n := 1) (by decide +kernel)) rfl
noncomputable def t_X9_sightOf : List zBl := [b_X9_sightOf_0]
theorem tt_X9_sightOf (d : Nat) (hG : zGood gh) : zT (zPb l G gh (d + 7) n_X9_sightOf p_X9_sightOf) t_X9_sightOf p_X9_sightOf := ⟨s_X9_sightOf_0 d hG, trivial⟩
def q_X9_sightOf_0 : List (Nat × Nat) := [(292, zk102), (302, zk111), (303, zk111), (321, zk3), (322, zk116)]
noncomputable def al_X9_sightOf_0 : zAq := [(some (.inl 9223372034707292179), [(292, zk105), (302, zk111), (303, zk111), (321, zk4), (322, zk117)])]
noncomputable def fm_X9_sightOf_0 : List zFm := [(0, [], (fun vs => [.inr (.ref 292), .inl 8589934591, .inl 9223372043297226757, .inl 8589934591]), (fun vs => zP q_X9_sightOf_0), (fun vs => Nat.sub (Nat.add 0 0) 0))]
def bf_X9_sightOf_0 : List Nat := []
theorem r_X9_sightOf_0_0 : zbox [] (fun vs => zFrun (zpost (zAlq al_X9_sightOf_0)) 1000 t_X9_sightOf fm_X9_sightOf_0 bf_X9_sightOf_0 (0, vs)) = true := by decide +kernel
set_option maxRecDepth 100000 in
theorem x_X9_sightOf_0 (d : Nat) (hG : zGood gh) : zS l G gh (d + 7) (zpost (zAlq al_X9_sightOf_0)) n_X9_sightOf (zn 0 p_X9_sightOf 0) (zwc (0, [.inr (.ref 292), .inl 8589934591, .inl 9223372043297226757, .inl 8589934591], zP q_X9_sightOf_0) 0) := zentry (tt_X9_sightOf d hG) fm_X9_sightOf_0 bf_X9_sightOf_0 1000 (by decide +kernel) rfl ⟨Nat.zero_lt_succ _, trivial⟩ (fun f hf => match f, hf with
  | 0, _ => fun vs hv => (zbox_t r_X9_sightOf_0_0) vs hv
  | f + 1, h => absurd (show f + 1 < 1 from h) (Nat.not_lt.mpr (Nat.le_add_left 1 f)))
noncomputable def gs_X9_sightOf_0 : zMt := zgq true zUN 4 [.inr (.ref 292), .inl 8589934591, .inl 9223372043297226757, .inl 8589934591] q_X9_sightOf_0 al_X9_sightOf_0
set_option maxRecDepth 100000 in
theorem cs_X9_sightOf_0 (d : Nat) (hG : zGood gh) : zC l G gh (d + 7) n_X9_sightOf gs_X9_sightOf_0 := zgq_ok zGood_ok (pcs := p_X9_sightOf) (by decide) rfl rfl (fun a ha => by simp only [al_X9_sightOf_0, List.mem_cons, List.not_mem_nil, or_false] at ha; rcases ha with rfl <;> decide +kernel) (fun gh hG => x_X9_sightOf_0 d hG) (by decide +kernel) hG
noncomputable def gs_X9_sightOf : zMt := gs_X9_sightOf_0
theorem cs_X9_sightOf (d : Nat) (hG : zGood gh) : zC l G gh (d + 7) n_X9_sightOf gs_X9_sightOf := (cs_X9_sightOf_0 d hG)
def p_X9_hoursFrom : List Nat := [0, 6, 12, 31, 34, 40]
noncomputable def b_X9_hoursFrom_0 : zBl := fun jp K => oInt 2147483648 <| oIst 4 <| oInt 2147483648 <| oIst 5 <| jp 1
theorem s_X9_hoursFrom_0 (d : Nat) (hG : zGood gh) : zPb l G gh (d + 7) n_X9_hoursFrom p_X9_hoursFrom 0 b_X9_hoursFrom_0 := fun K jp hj =>
    z_iconst (n := 0) (zd (i := .iconst (0)) (n := 1) (by decide +kernel)) (by decide +kernel) <|
    z_istore (i := 4) (zd (i := .istore 4) (n := 2) (by decide +kernel)) (by decide +kernel) <|
    z_iconst (n := 0) (zd (i := .iconst (0)) (n := 1) (by decide +kernel)) (by decide +kernel) <|
    z_istore (i := 5) (zd (i := .istore 5) (n := 2) (by decide +kernel)) (by decide +kernel) <|
    (zj (hj 1) (by decide +kernel))
noncomputable def b_X9_hoursFrom_1 : zBl := fun jp K => oNLL 5 3 zgeN zltN zn1_ge zn2_ge zn1_lt zn2_lt (jp 5) (jp 2)
theorem s_X9_hoursFrom_1 (d : Nat) (hG : zGood gh) : zPb l G gh (d + 7) n_X9_hoursFrom p_X9_hoursFrom 6 b_X9_hoursFrom_1 := fun K jp hj =>
    z_nLL_ge (i := 5) (j := 3) (a1 := 2) (a2 := 1) (off := 31) (tgt := 40) (zLd_w (i := 5) (zd (i := .iload 5) (n := 2) (by decide +kernel))) (zLd_n (n := 3) (i := 3) (zd (i := .iload_n 3) (n := 1) (by decide +kernel)) rfl) (zd (i := .if_icmp .ge (31)) (n := 3) (by decide +kernel)) (by decide +kernel) (zj (hj 5) (by decide +kernel)) (zj (hj 2) (by decide +kernel))
noncomputable def b_X9_hoursFrom_2 : zBl := fun jp K => oAld 0 <| oIld 1 <| oIld 2 <| oAld 0 <| oGetR 9 48 <| oInt 2147483744 <| oXald 10 <| oIld 5 <| oB2 zadd <| oCv 9 3 gs_X9_sees <| oIf zeq zne (jp 4) (jp 3)
theorem s_X9_hoursFrom_2 (d : Nat) (hG : zGood gh) : zPb l G gh (d + 7) n_X9_hoursFrom p_X9_hoursFrom 12 b_X9_hoursFrom_2 := fun K jp hj =>
    z_aload_n (n := 0) (i := 0) (zd (i := .aload_n 0) (n := 1) (by decide +kernel)) rfl <|
    z_iload_n (n := 1) (i := 1) (zd (i := .iload_n 1) (n := 1) (by decide +kernel)) rfl <|
    z_iload_n (n := 2) (i := 2) (zd (i := .iload_n 2) (n := 1) (by decide +kernel)) rfl <|
    z_aload_n (n := 0) (i := 0) (zd (i := .aload_n 0) (n := 1) (by decide +kernel)) rfl <|
    z_getR (ci := 9) (j := 48) (idx := 110) (zd (i := .getfield 110) (n := 3) (by decide +kernel)) (by decide +kernel) (by decide +kernel) rfl g1176 <|
    z_bipush (n := 96) (zd (i := .bipush (96)) (n := 2) (by decide +kernel)) (by decide +kernel) <|
    z_iald (zd (i := .iaload) (n := 1) (by decide +kernel)) <|
    z_iload (i := 5) (zd (i := .iload 5) (n := 2) (by decide +kernel)) <|
    z_iadd (zd (i := .iadd) (n := 1) (by decide +kernel)) <|
    z_callV (idx := 352) (ci := 9) (N := n_X9_sees) (zd (i := .invokevirtual 352) (n := 3) (by decide +kernel)) to_X9_sees g1449 g1451 g68 (by decide +kernel) rfl rfl rfl (cs_X9_sees (l := l) (G := G) (gh := gh) (d) hG) <|
    z_if_eq (off := 6) (tgt := 34) (zd (i := .ifCond .eq (6)) (n := 3) (by decide +kernel)) (by decide +kernel) (zj (hj 4) (by decide +kernel)) (zj (hj 3) (by decide +kernel))
noncomputable def b_X9_hoursFrom_3 : zBl := fun jp K => oInc 4 2147483649 <| jp 4
theorem s_X9_hoursFrom_3 (d : Nat) (hG : zGood gh) : zPb l G gh (d + 7) n_X9_hoursFrom p_X9_hoursFrom 31 b_X9_hoursFrom_3 := fun K jp hj =>
    z_iinc (i := 4) (n := 1) (zd (i := .iinc 4 (1)) (n := 3) (by decide +kernel)) (by decide +kernel) (by decide +kernel) <|
    (zj (hj 4) (by decide +kernel))
noncomputable def b_X9_hoursFrom_4 : zBl := fun jp K => oInc 5 2147483649 <| jp 1
theorem s_X9_hoursFrom_4 (d : Nat) (hG : zGood gh) : zPb l G gh (d + 7) n_X9_hoursFrom p_X9_hoursFrom 34 b_X9_hoursFrom_4 := fun K jp hj =>
    z_iinc (i := 5) (n := 1) (zd (i := .iinc 5 (1)) (n := 3) (by decide +kernel)) (by decide +kernel) (by decide +kernel) <|
    z_goto (off := -31) (tgt := 6) (zd (i := .goto (-31)) (n := 3) (by decide +kernel)) (by decide +kernel) (zj (hj 1) (by decide +kernel))
noncomputable def b_X9_hoursFrom_5 : zBl := fun jp K => oIld 4 <| oIret K
theorem s_X9_hoursFrom_5 (d : Nat) (hG : zGood gh) : zPb l G gh (d + 7) n_X9_hoursFrom p_X9_hoursFrom 40 b_X9_hoursFrom_5 := fun K jp hj =>
    z_iload (i := 4) (zd (i := .iload 4) (n := 2) (by decide +kernel)) <|
    z_iret (zd (i := .ireturn) (n := 1) (by decide +kernel)) rfl
noncomputable def t_X9_hoursFrom : List zBl := [b_X9_hoursFrom_0, b_X9_hoursFrom_1, b_X9_hoursFrom_2, b_X9_hoursFrom_3, b_X9_hoursFrom_4, b_X9_hoursFrom_5]
theorem tt_X9_hoursFrom (d : Nat) (hG : zGood gh) : zT (zPb l G gh (d + 7) n_X9_hoursFrom p_X9_hoursFrom) t_X9_hoursFrom p_X9_hoursFrom := ⟨s_X9_hoursFrom_0 d hG, s_X9_hoursFrom_1 d hG, s_X9_hoursFrom_2 d hG, s_X9_hoursFrom_3 d hG, s_X9_hoursFrom_4 d hG, s_X9_hoursFrom_5 d hG, trivial⟩
def q_X9_hoursFrom_0 : List (Nat × Nat) := [(292, zk102), (302, zk111), (303, zk111), (321, zk3), (322, zk116), (323, zk104)]
noncomputable def al_X9_hoursFrom_0 : zAq := [(some (.inl 8589934591), [(292, zk105), (302, zk111), (303, zk111), (321, zk4), (322, zk117), (323, zk104)])]
def mq_X9_hoursFrom_0_1 : List (Nat × Nat) := [(292, zk105), (302, zk111), (303, zk111), (321, zk4), (322, zk117), (323, zk104)]
noncomputable def fm_X9_hoursFrom_0 : List zFm := [(0, [], (fun vs => [.inr (.ref 292), .inl 8589934591, .inl 9223372043297226757, .inl 9223372047592194096]), (fun vs => zP q_X9_hoursFrom_0), (fun vs => Nat.sub (Nat.add 49 0) 0)),
  (1, [(5, 2147483648, 2147483696)], (fun vs => [.inr (.ref 292), .inl 8589934591, .inl 9223372043297226757, .inl 9223372047592194096, .inl 8589934591, .inl (zn 0 vs 0)]), (fun vs => zP mq_X9_hoursFrom_0_1), (fun vs => Nat.sub (Nat.add 2147483696 0) (Nat.add 0 (Nat.mul 1 (zn 0 vs 0)))))]
def bf_X9_hoursFrom_0 : List Nat := [0, 2]
theorem r_X9_hoursFrom_0_0 : zbox [] (fun vs => zFrun (zpost (zAlq al_X9_hoursFrom_0)) 1000 t_X9_hoursFrom fm_X9_hoursFrom_0 bf_X9_hoursFrom_0 (0, vs)) = true := by decide +kernel
theorem r_X9_hoursFrom_0_1 : zbox [(5, 2147483648, 2147483696)] (fun vs => zFrun (zpost (zAlq al_X9_hoursFrom_0)) 1000 t_X9_hoursFrom fm_X9_hoursFrom_0 bf_X9_hoursFrom_0 (1, vs)) = true := by decide +kernel
set_option maxRecDepth 100000 in
theorem x_X9_hoursFrom_0 (d : Nat) (hG : zGood gh) : zS l G gh (d + 7) (zpost (zAlq al_X9_hoursFrom_0)) n_X9_hoursFrom (zn 0 p_X9_hoursFrom 0) (zwc (0, [.inr (.ref 292), .inl 8589934591, .inl 9223372043297226757, .inl 9223372047592194096], zP q_X9_hoursFrom_0) 0) := zentry (tt_X9_hoursFrom d hG) fm_X9_hoursFrom_0 bf_X9_hoursFrom_0 1000 (by decide +kernel) rfl ⟨Nat.zero_lt_succ _, trivial⟩ (fun f hf => match f, hf with
  | 0, _ => fun vs hv => (zbox_t r_X9_hoursFrom_0_0) vs hv
  | 1, _ => fun vs hv => (zbox_t r_X9_hoursFrom_0_1) vs hv
  | f + 2, h => absurd (show f + 2 < 2 from h) (Nat.not_lt.mpr (Nat.le_add_left 2 f)))
noncomputable def gs_X9_hoursFrom_0 : zMt := zgq true zUN 6 [.inr (.ref 292), .inl 8589934591, .inl 9223372043297226757, .inl 9223372047592194096] q_X9_hoursFrom_0 al_X9_hoursFrom_0
set_option maxRecDepth 100000 in
theorem cs_X9_hoursFrom_0 (d : Nat) (hG : zGood gh) : zC l G gh (d + 7) n_X9_hoursFrom gs_X9_hoursFrom_0 := zgq_ok zGood_ok (pcs := p_X9_hoursFrom) (by decide) rfl rfl (fun a ha => by simp only [al_X9_hoursFrom_0, List.mem_cons, List.not_mem_nil, or_false] at ha; rcases ha with rfl <;> decide +kernel) (fun gh hG => x_X9_hoursFrom_0 d hG) (by decide +kernel) hG
noncomputable def gs_X9_hoursFrom : zMt := gs_X9_hoursFrom_0
theorem cs_X9_hoursFrom (d : Nat) (hG : zGood gh) : zC l G gh (d + 7) n_X9_hoursFrom gs_X9_hoursFrom := (cs_X9_hoursFrom_0 d hG)
def p_X9_dawns : List Nat := [0, 7, 15, 17, 19, 25, 43, 45, 51]
noncomputable def b_X9_dawns_0 : zBl := fun jp K => oIld 1 <| oCs 1 f_X9_isX <| oIf zeq zne (jp 2) (jp 1)
theorem s_X9_dawns_0 (d : Nat) (hG : zGood gh) : zPb l G gh (d + 7) n_X9_dawns p_X9_dawns 0 b_X9_dawns_0 := fun K jp hj =>
    z_iload_n (n := 1) (i := 1) (zd (i := .iload_n 1) (n := 1) (by decide +kernel)) rfl <|
    z_callS (idx := 387) (N := n_X9_isX) (zd (i := .invokestatic 387) (n := 3) (by decide +kernel)) to_X9_isX g1507 g1508 rfl rfl (c_X9_isX (l := l) (G := G) (gh := gh) (d + 4)) <|
    z_if_eq (off := 11) (tgt := 15) (zd (i := .ifCond .eq (11)) (n := 3) (by decide +kernel)) (by decide +kernel) (zj (hj 2) (by decide +kernel)) (zj (hj 1) (by decide +kernel))
noncomputable def b_X9_dawns_1 : zBl := fun jp K => oAld 0 <| oIld 2 <| oCv 9 1 f_X9_isThing <| oIf zne zeq (jp 3) (jp 2)
theorem s_X9_dawns_1 (d : Nat) (hG : zGood gh) : zPb l G gh (d + 7) n_X9_dawns p_X9_dawns 7 b_X9_dawns_1 := fun K jp hj =>
    z_aload_n (n := 0) (i := 0) (zd (i := .aload_n 0) (n := 1) (by decide +kernel)) rfl <|
    z_iload_n (n := 2) (i := 2) (zd (i := .iload_n 2) (n := 1) (by decide +kernel)) rfl <|
    z_callV (idx := 372) (ci := 9) (N := n_X9_isThing) (zd (i := .invokevirtual 372) (n := 3) (by decide +kernel)) to_X9_isThing g1438 g1440 g66 (by decide +kernel) rfl rfl rfl (c_X9_isThing (l := l) (G := G) (gh := gh) (d + 4)) <|
    z_if_ne (off := 5) (tgt := 17) (zd (i := .ifCond .ne (5)) (n := 3) (by decide +kernel)) (by decide +kernel) (zj (hj 3) (by decide +kernel)) (zj (hj 2) (by decide +kernel))
noncomputable def b_X9_dawns_2 : zBl := fun jp K => oInt 2147483647 <| oIret K
theorem s_X9_dawns_2 (d : Nat) (hG : zGood gh) : zPb l G gh (d + 7) n_X9_dawns p_X9_dawns 15 b_X9_dawns_2 := fun K jp hj =>
    z_iconst (n := -1) (zd (i := .iconst (-1)) (n := 1) (by decide +kernel)) (by decide +kernel) <|
    z_iret (zd (i := .ireturn) (n := 1) (by decide +kernel)) rfl
noncomputable def b_X9_dawns_3 : zBl := fun jp K => oInt 2147483648 <| oIst 3 <| jp 4
theorem s_X9_dawns_3 (d : Nat) (hG : zGood gh) : zPb l G gh (d + 7) n_X9_dawns p_X9_dawns 17 b_X9_dawns_3 := fun K jp hj =>
    z_iconst (n := 0) (zd (i := .iconst (0)) (n := 1) (by decide +kernel)) (by decide +kernel) <|
    z_istore_n (n := 3) (i := 3) (zd (i := .istore_n 3) (n := 1) (by decide +kernel)) rfl (by decide +kernel) <|
    (zj (hj 4) (by decide +kernel))
noncomputable def b_X9_dawns_4 : zBl := fun jp K => oNLC 3 2147483696 zgtN zleN zn1_gt zn1_le (jp 8) (jp 5)
theorem s_X9_dawns_4 (d : Nat) (hG : zGood gh) : zPb l G gh (d + 7) n_X9_dawns p_X9_dawns 19 b_X9_dawns_4 := fun K jp hj =>
    z_nLC_gt (i := 3) (c0 := 2147483696) (a1 := 1) (a2 := 2) (off := 29) (tgt := 51) (zLd_n (n := 3) (i := 3) (zd (i := .iload_n 3) (n := 1) (by decide +kernel)) rfl) (zCn_b (n := 48) (zd (i := .bipush (48)) (n := 2) (by decide +kernel)) (by decide +kernel)) (zd (i := .if_icmp .gt (29)) (n := 3) (by decide +kernel)) (by decide +kernel) (zj (hj 8) (by decide +kernel)) (zj (hj 5) (by decide +kernel))
noncomputable def b_X9_dawns_5 : zBl := fun jp K => oAld 0 <| oIld 1 <| oIld 2 <| oAld 0 <| oGetR 9 48 <| oInt 2147483744 <| oXald 10 <| oIld 3 <| oB2 zadd <| oCv 9 3 gs_X9_sees <| oIf zeq zne (jp 7) (jp 6)
theorem s_X9_dawns_5 (d : Nat) (hG : zGood gh) : zPb l G gh (d + 7) n_X9_dawns p_X9_dawns 25 b_X9_dawns_5 := fun K jp hj =>
    z_aload_n (n := 0) (i := 0) (zd (i := .aload_n 0) (n := 1) (by decide +kernel)) rfl <|
    z_iload_n (n := 1) (i := 1) (zd (i := .iload_n 1) (n := 1) (by decide +kernel)) rfl <|
    z_iload_n (n := 2) (i := 2) (zd (i := .iload_n 2) (n := 1) (by decide +kernel)) rfl <|
    z_aload_n (n := 0) (i := 0) (zd (i := .aload_n 0) (n := 1) (by decide +kernel)) rfl <|
    z_getR (ci := 9) (j := 48) (idx := 110) (zd (i := .getfield 110) (n := 3) (by decide +kernel)) (by decide +kernel) (by decide +kernel) rfl g1176 <|
    z_bipush (n := 96) (zd (i := .bipush (96)) (n := 2) (by decide +kernel)) (by decide +kernel) <|
    z_iald (zd (i := .iaload) (n := 1) (by decide +kernel)) <|
    z_iload_n (n := 3) (i := 3) (zd (i := .iload_n 3) (n := 1) (by decide +kernel)) rfl <|
    z_iadd (zd (i := .iadd) (n := 1) (by decide +kernel)) <|
    z_callV (idx := 352) (ci := 9) (N := n_X9_sees) (zd (i := .invokevirtual 352) (n := 3) (by decide +kernel)) to_X9_sees g1449 g1451 g68 (by decide +kernel) rfl rfl rfl (cs_X9_sees (l := l) (G := G) (gh := gh) (d) hG) <|
    z_if_eq (off := 5) (tgt := 45) (zd (i := .ifCond .eq (5)) (n := 3) (by decide +kernel)) (by decide +kernel) (zj (hj 7) (by decide +kernel)) (zj (hj 6) (by decide +kernel))
noncomputable def b_X9_dawns_6 : zBl := fun jp K => oIld 3 <| oIret K
theorem s_X9_dawns_6 (d : Nat) (hG : zGood gh) : zPb l G gh (d + 7) n_X9_dawns p_X9_dawns 43 b_X9_dawns_6 := fun K jp hj =>
    z_iload_n (n := 3) (i := 3) (zd (i := .iload_n 3) (n := 1) (by decide +kernel)) rfl <|
    z_iret (zd (i := .ireturn) (n := 1) (by decide +kernel)) rfl
noncomputable def b_X9_dawns_7 : zBl := fun jp K => oInc 3 2147483649 <| jp 4
theorem s_X9_dawns_7 (d : Nat) (hG : zGood gh) : zPb l G gh (d + 7) n_X9_dawns p_X9_dawns 45 b_X9_dawns_7 := fun K jp hj =>
    z_iinc (i := 3) (n := 1) (zd (i := .iinc 3 (1)) (n := 3) (by decide +kernel)) (by decide +kernel) (by decide +kernel) <|
    z_goto (off := -29) (tgt := 19) (zd (i := .goto (-29)) (n := 3) (by decide +kernel)) (by decide +kernel) (zj (hj 4) (by decide +kernel))
noncomputable def b_X9_dawns_8 : zBl := fun jp K => oInt 2147483646 <| oIret K
theorem s_X9_dawns_8 (d : Nat) (hG : zGood gh) : zPb l G gh (d + 7) n_X9_dawns p_X9_dawns 51 b_X9_dawns_8 := fun K jp hj =>
    z_bipush (n := -2) (zd (i := .bipush (-2)) (n := 2) (by decide +kernel)) (by decide +kernel) <|
    z_iret (zd (i := .ireturn) (n := 1) (by decide +kernel)) rfl
noncomputable def t_X9_dawns : List zBl := [b_X9_dawns_0, b_X9_dawns_1, b_X9_dawns_2, b_X9_dawns_3, b_X9_dawns_4, b_X9_dawns_5, b_X9_dawns_6, b_X9_dawns_7, b_X9_dawns_8]
theorem tt_X9_dawns (d : Nat) (hG : zGood gh) : zT (zPb l G gh (d + 7) n_X9_dawns p_X9_dawns) t_X9_dawns p_X9_dawns := ⟨s_X9_dawns_0 d hG, s_X9_dawns_1 d hG, s_X9_dawns_2 d hG, s_X9_dawns_3 d hG, s_X9_dawns_4 d hG, s_X9_dawns_5 d hG, s_X9_dawns_6 d hG, s_X9_dawns_7 d hG, s_X9_dawns_8 d hG, trivial⟩
def q_X9_dawns_0 : List (Nat × Nat) := [(292, zk102), (301, zk107), (302, zk111), (303, zk111), (321, zk3), (322, zk116), (323, zk104)]
noncomputable def al_X9_dawns_0 : zAq := [(some (.inl 9223372034707292208), [(292, zk105), (301, zk107), (302, zk111), (303, zk111), (321, zk4), (322, zk117), (323, zk104)])]
def mq_X9_dawns_0_1 : List (Nat × Nat) := [(292, zk105), (301, zk107), (302, zk111), (303, zk111), (321, zk4), (322, zk117), (323, zk104)]
noncomputable def fm_X9_dawns_0 : List zFm := [(0, [], (fun vs => [.inr (.ref 292), .inl 8589934591, .inl 9223372043297226757]), (fun vs => zP q_X9_dawns_0), (fun vs => Nat.sub (Nat.add 50 0) 0)),
  (4, [(3, 2147483648, 2147483697)], (fun vs => [.inr (.ref 292), .inl 8589934591, .inl 9223372043297226757, .inl (zn 0 vs 0)]), (fun vs => zP mq_X9_dawns_0_1), (fun vs => Nat.sub (Nat.add 2147483697 0) (Nat.add 0 (Nat.mul 1 (zn 0 vs 0)))))]
def bf_X9_dawns_0 : List Nat := [0, 0, 0, 0, 2]
theorem r_X9_dawns_0_0 : zbox [] (fun vs => zFrun (zpost (zAlq al_X9_dawns_0)) 1000 t_X9_dawns fm_X9_dawns_0 bf_X9_dawns_0 (0, vs)) = true := by decide +kernel
theorem r_X9_dawns_0_1 : zbox [(3, 2147483648, 2147483697)] (fun vs => zFrun (zpost (zAlq al_X9_dawns_0)) 1000 t_X9_dawns fm_X9_dawns_0 bf_X9_dawns_0 (1, vs)) = true := by decide +kernel
set_option maxRecDepth 100000 in
theorem x_X9_dawns_0 (d : Nat) (hG : zGood gh) : zS l G gh (d + 7) (zpost (zAlq al_X9_dawns_0)) n_X9_dawns (zn 0 p_X9_dawns 0) (zwc (0, [.inr (.ref 292), .inl 8589934591, .inl 9223372043297226757], zP q_X9_dawns_0) 0) := zentry (tt_X9_dawns d hG) fm_X9_dawns_0 bf_X9_dawns_0 1000 (by decide +kernel) rfl ⟨Nat.zero_lt_succ _, trivial⟩ (fun f hf => match f, hf with
  | 0, _ => fun vs hv => (zbox_t r_X9_dawns_0_0) vs hv
  | 1, _ => fun vs hv => (zbox_t r_X9_dawns_0_1) vs hv
  | f + 2, h => absurd (show f + 2 < 2 from h) (Nat.not_lt.mpr (Nat.le_add_left 2 f)))
noncomputable def gs_X9_dawns_0 : zMt := zgq true zUN 4 [.inr (.ref 292), .inl 8589934591, .inl 9223372043297226757] q_X9_dawns_0 al_X9_dawns_0
set_option maxRecDepth 100000 in
theorem cs_X9_dawns_0 (d : Nat) (hG : zGood gh) : zC l G gh (d + 7) n_X9_dawns gs_X9_dawns_0 := zgq_ok zGood_ok (pcs := p_X9_dawns) (by decide) rfl rfl (fun a ha => by simp only [al_X9_dawns_0, List.mem_cons, List.not_mem_nil, or_false] at ha; rcases ha with rfl <;> decide +kernel) (fun gh hG => x_X9_dawns_0 d hG) (by decide +kernel) hG
def q_X9_dawns_1 : List (Nat × Nat) := [(292, zk102), (301, zk107)]
noncomputable def al_X9_dawns_1 : zAq := [(some (.inl 2147483647), [(292, zk102), (301, zk107)])]
noncomputable def fm_X9_dawns_1 : List zFm := [(0, [], (fun vs => [.inr (.ref 292), .inl 8589934591, .inl 6442450943]), (fun vs => zP q_X9_dawns_1), (fun vs => Nat.sub (Nat.add 0 0) 0))]
def bf_X9_dawns_1 : List Nat := []
theorem r_X9_dawns_1_0 : zbox [] (fun vs => zFrun (zpost (zAlq al_X9_dawns_1)) 1000 t_X9_dawns fm_X9_dawns_1 bf_X9_dawns_1 (0, vs)) = true := by decide +kernel
set_option maxRecDepth 100000 in
theorem x_X9_dawns_1 (d : Nat) (hG : zGood gh) : zS l G gh (d + 7) (zpost (zAlq al_X9_dawns_1)) n_X9_dawns (zn 0 p_X9_dawns 0) (zwc (0, [.inr (.ref 292), .inl 8589934591, .inl 6442450943], zP q_X9_dawns_1) 0) := zentry (tt_X9_dawns d hG) fm_X9_dawns_1 bf_X9_dawns_1 1000 (by decide +kernel) rfl ⟨Nat.zero_lt_succ _, trivial⟩ (fun f hf => match f, hf with
  | 0, _ => fun vs hv => (zbox_t r_X9_dawns_1_0) vs hv
  | f + 1, h => absurd (show f + 1 < 1 from h) (Nat.not_lt.mpr (Nat.le_add_left 1 f)))
noncomputable def gs_X9_dawns_1 : zMt := zgq true zUN 4 [.inr (.ref 292), .inl 8589934591, .inl 6442450943] q_X9_dawns_1 al_X9_dawns_1
set_option maxRecDepth 100000 in
theorem cs_X9_dawns_1 (d : Nat) (hG : zGood gh) : zC l G gh (d + 7) n_X9_dawns gs_X9_dawns_1 := zgq_ok zGood_ok (pcs := p_X9_dawns) (by decide) rfl rfl (fun a ha => by simp only [al_X9_dawns_1, List.mem_cons, List.not_mem_nil, or_false] at ha; rcases ha with rfl <;> decide +kernel) (fun gh hG => x_X9_dawns_1 d hG) (by decide +kernel) hG
def q_X9_dawns_2 : List (Nat × Nat) := [(292, zk102), (301, zk107)]
noncomputable def al_X9_dawns_2 : zAq := [(some (.inl 2147483647), [(292, zk102), (301, zk107)])]
noncomputable def fm_X9_dawns_2 : List zFm := [(0, [], (fun vs => [.inr (.ref 292), .inl 8589934591, .inl 9223372071214514175]), (fun vs => zP q_X9_dawns_2), (fun vs => Nat.sub (Nat.add 0 0) 0))]
def bf_X9_dawns_2 : List Nat := []
theorem r_X9_dawns_2_0 : zbox [] (fun vs => zFrun (zpost (zAlq al_X9_dawns_2)) 1000 t_X9_dawns fm_X9_dawns_2 bf_X9_dawns_2 (0, vs)) = true := by decide +kernel
set_option maxRecDepth 100000 in
theorem x_X9_dawns_2 (d : Nat) (hG : zGood gh) : zS l G gh (d + 7) (zpost (zAlq al_X9_dawns_2)) n_X9_dawns (zn 0 p_X9_dawns 0) (zwc (0, [.inr (.ref 292), .inl 8589934591, .inl 9223372071214514175], zP q_X9_dawns_2) 0) := zentry (tt_X9_dawns d hG) fm_X9_dawns_2 bf_X9_dawns_2 1000 (by decide +kernel) rfl ⟨Nat.zero_lt_succ _, trivial⟩ (fun f hf => match f, hf with
  | 0, _ => fun vs hv => (zbox_t r_X9_dawns_2_0) vs hv
  | f + 1, h => absurd (show f + 1 < 1 from h) (Nat.not_lt.mpr (Nat.le_add_left 1 f)))
noncomputable def gs_X9_dawns_2 : zMt := zgq true zUN 4 [.inr (.ref 292), .inl 8589934591, .inl 9223372071214514175] q_X9_dawns_2 al_X9_dawns_2
set_option maxRecDepth 100000 in
theorem cs_X9_dawns_2 (d : Nat) (hG : zGood gh) : zC l G gh (d + 7) n_X9_dawns gs_X9_dawns_2 := zgq_ok zGood_ok (pcs := p_X9_dawns) (by decide) rfl rfl (fun a ha => by simp only [al_X9_dawns_2, List.mem_cons, List.not_mem_nil, or_false] at ha; rcases ha with rfl <;> decide +kernel) (fun gh hG => x_X9_dawns_2 d hG) (by decide +kernel) hG
noncomputable def gs_X9_dawns : zMt := (zor gs_X9_dawns_0 (zor gs_X9_dawns_1 gs_X9_dawns_2))
theorem cs_X9_dawns (d : Nat) (hG : zGood gh) : zC l G gh (d + 7) n_X9_dawns gs_X9_dawns := (zor_ok (cs_X9_dawns_0 d hG) (zor_ok (cs_X9_dawns_1 d hG) (cs_X9_dawns_2 d hG)))
end
