section
variable {l : Launch} {G : qG} {gh : zGh}
def n_X8_hold : qMn := (yX8_hold, cX8_hold, 2, (some Jvm.ClassFile.FieldType.boolean), 0, 0)
theorem to_X8_hold : qTo n_X8_hold 1 := ⟨g1083, g97, ⟨by decide, by decide, by decide +kernel⟩, by decide⟩
def p_X8_hold : List Nat := [0, 4, 9, 11]
noncomputable def b_X8_hold_0 : zBl := fun jp K => oNLC 1 2147483648 zltN zgeN zn1_lt zn1_ge (jp 2) (jp 1)
theorem s_X8_hold_0 (d : Nat) : zPb l G gh (d + 2) n_X8_hold p_X8_hold 0 b_X8_hold_0 := fun K jp hj =>
    z_nL0_lt (i := 1) (a1 := 1) (off := 8) (tgt := 9) (zLd_n (n := 1) (i := 1) (zd (i := .iload_n 1) (n := 1) (by decide +kernel)) rfl) (zd (i := .ifCond .lt (8)) (n := 3) (by decide +kernel)) (by decide +kernel) (zj (hj 2) (by decide +kernel)) (zj (hj 1) (by decide +kernel))
noncomputable def b_X8_hold_1 : zBl := fun jp K => oNLC 1 2147483651 zltN zgeN zn1_lt zn1_ge (jp 3) (jp 2)
theorem s_X8_hold_1 (d : Nat) : zPb l G gh (d + 2) n_X8_hold p_X8_hold 4 b_X8_hold_1 := fun K jp hj =>
    z_nLC_lt (i := 1) (c0 := 2147483651) (a1 := 1) (a2 := 1) (off := 5) (tgt := 11) (zLd_n (n := 1) (i := 1) (zd (i := .iload_n 1) (n := 1) (by decide +kernel)) rfl) (zCn_c (n := 3) (zd (i := .iconst (3)) (n := 1) (by decide +kernel)) (by decide +kernel)) (zd (i := .if_icmp .lt (5)) (n := 3) (by decide +kernel)) (by decide +kernel) (zj (hj 3) (by decide +kernel)) (zj (hj 2) (by decide +kernel))
noncomputable def b_X8_hold_2 : zBl := fun jp K => oInt 2147483648 <| oZret K
theorem s_X8_hold_2 (d : Nat) : zPb l G gh (d + 2) n_X8_hold p_X8_hold 9 b_X8_hold_2 := fun K jp hj =>
    z_iconst (n := 0) (zd (i := .iconst (0)) (n := 1) (by decide +kernel)) (by decide +kernel) <|
    z_zret (zd (i := .ireturn) (n := 1) (by decide +kernel)) rfl
noncomputable def b_X8_hold_3 : zBl := fun jp K => oAld 0 <| oGetR 8 5 <| oIld 1 <| oAald <| oAld 0 <| oGetR 8 2 <| oCv 4 1 f_X4_copy <| oAld 0 <| oGetR 8 6 <| oIld 1 <| oInt 2147483649 <| oXast 12 znz1 <| oInt 2147483649 <| oZret K
theorem s_X8_hold_3 (d : Nat) : zPb l G gh (d + 2) n_X8_hold p_X8_hold 11 b_X8_hold_3 := fun K jp hj =>
    z_aload_n (n := 0) (i := 0) (zd (i := .aload_n 0) (n := 1) (by decide +kernel)) rfl <|
    z_getR (ci := 8) (j := 5) (idx := 40) (zd (i := .getfield 40) (n := 3) (by decide +kernel)) (by decide +kernel) (by decide +kernel) rfl g457 <|
    z_iload_n (n := 1) (i := 1) (zd (i := .iload_n 1) (n := 1) (by decide +kernel)) rfl <|
    z_aald (zd (i := .aaload) (n := 1) (by decide +kernel)) <|
    z_aload_n (n := 0) (i := 0) (zd (i := .aload_n 0) (n := 1) (by decide +kernel)) rfl <|
    z_getR (ci := 8) (j := 2) (idx := 26) (zd (i := .getfield 26) (n := 3) (by decide +kernel)) (by decide +kernel) (by decide +kernel) rfl g454 <|
    z_callV (idx := 258) (ci := 4) (N := n_X4_copy) (zd (i := .invokevirtual 258) (n := 3) (by decide +kernel)) to_X4_copy g956 g841 g842 (by decide +kernel) rfl rfl rfl (c_X4_copy (l := l) (G := G) (gh := gh) (d)) <|
    z_aload_n (n := 0) (i := 0) (zd (i := .aload_n 0) (n := 1) (by decide +kernel)) rfl <|
    z_getR (ci := 8) (j := 6) (idx := 44) (zd (i := .getfield 44) (n := 3) (by decide +kernel)) (by decide +kernel) (by decide +kernel) rfl g458 <|
    z_iload_n (n := 1) (i := 1) (zd (i := .iload_n 1) (n := 1) (by decide +kernel)) rfl <|
    z_iconst (n := 1) (zd (i := .iconst (1)) (n := 1) (by decide +kernel)) (by decide +kernel) <|
    z_zast (zd (i := .bastore) (n := 1) (by decide +kernel)) <|
    z_iconst (n := 1) (zd (i := .iconst (1)) (n := 1) (by decide +kernel)) (by decide +kernel) <|
    z_zret (zd (i := .ireturn) (n := 1) (by decide +kernel)) rfl
noncomputable def t_X8_hold : List zBl := [b_X8_hold_0, b_X8_hold_1, b_X8_hold_2, b_X8_hold_3]
theorem tt_X8_hold (d : Nat) : zT (zPb l G gh (d + 2) n_X8_hold p_X8_hold) t_X8_hold p_X8_hold := ⟨s_X8_hold_0 d, s_X8_hold_1 d, s_X8_hold_2 d, s_X8_hold_3 d, trivial⟩
def q_X8_hold_0 : List (Nat × Nat) := [(0, zk12), (21, zk22), (22, zk10), (23, zk10), (24, zk10), (25, zk10), (26, zk23), (27, zk23), (247, zk100), (248, zk24), (271, zk101), (272, zk10), (273, zk10), (274, zk10), (275, zk10), (276, zk23), (277, zk23)]
noncomputable def al_X8_hold_0 : zAq := [(some (.inl 2147483649), [(0, zk12), (21, zk22), (22, zk10), (23, zk10), (24, zk10), (25, zk10), (26, zk23), (27, zk23), (247, zk100), (248, zk102), (271, zk103), (272, zk11), (273, zk11), (274, zk11), (275, zk11), (276, zk31), (277, zk31)])]
noncomputable def fm_X8_hold_0 : List zFm := [(0, [], (fun vs => [.inr (.ref 0), .inl 2147483648]), (fun vs => zP q_X8_hold_0), (fun vs => Nat.sub (Nat.add 0 0) 0))]
def bf_X8_hold_0 : List Nat := []
theorem r_X8_hold_0_0 : zbox [] (fun vs => zFrun (zpost (zAlq al_X8_hold_0)) 1000 t_X8_hold fm_X8_hold_0 bf_X8_hold_0 (0, vs)) = true := by decide +kernel
set_option maxRecDepth 100000 in
theorem x_X8_hold_0 (d : Nat) : zS l G gh (d + 2) (zpost (zAlq al_X8_hold_0)) n_X8_hold (zn 0 p_X8_hold 0) (zwc (0, [.inr (.ref 0), .inl 2147483648], zP q_X8_hold_0) 0) := zentry (tt_X8_hold d) fm_X8_hold_0 bf_X8_hold_0 1000 (by decide +kernel) rfl ⟨Nat.zero_lt_succ _, trivial⟩ (fun f hf => match f, hf with
  | 0, _ => fun vs hv => (zbox_t r_X8_hold_0_0) vs hv
  | f + 1, h => absurd (show f + 1 < 1 from h) (Nat.not_lt.mpr (Nat.le_add_left 1 f)))
noncomputable def gs_X8_hold_0 : zMt := zgq false [] 2 [.inr (.ref 0), .inl 2147483648] q_X8_hold_0 al_X8_hold_0
set_option maxRecDepth 100000 in
theorem cs_X8_hold_0 (d : Nat) : zC l G gh (d + 2) n_X8_hold gs_X8_hold_0 := zgq_ok0 (pcs := p_X8_hold) (by decide) rfl rfl (fun a ha => by simp only [al_X8_hold_0, List.mem_cons, List.not_mem_nil, or_false] at ha; rcases ha with rfl <;> decide +kernel) (fun gh => x_X8_hold_0 d) (by decide +kernel)
def q_X8_hold_1 : List (Nat × Nat) := [(0, zk12), (21, zk22), (22, zk10), (23, zk10), (24, zk10), (25, zk10), (26, zk23), (27, zk23), (247, zk100), (248, zk24), (278, zk104), (279, zk10), (280, zk10), (281, zk10), (282, zk10), (283, zk23), (284, zk23)]
noncomputable def al_X8_hold_1 : zAq := [(some (.inl 2147483649), [(0, zk12), (21, zk22), (22, zk10), (23, zk10), (24, zk10), (25, zk10), (26, zk23), (27, zk23), (247, zk100), (248, zk102), (278, zk105), (279, zk11), (280, zk11), (281, zk11), (282, zk11), (283, zk31), (284, zk31)])]
noncomputable def fm_X8_hold_1 : List zFm := [(0, [], (fun vs => [.inr (.ref 0), .inl 2147483649]), (fun vs => zP q_X8_hold_1), (fun vs => Nat.sub (Nat.add 0 0) 0))]
def bf_X8_hold_1 : List Nat := []
theorem r_X8_hold_1_0 : zbox [] (fun vs => zFrun (zpost (zAlq al_X8_hold_1)) 1000 t_X8_hold fm_X8_hold_1 bf_X8_hold_1 (0, vs)) = true := by decide +kernel
set_option maxRecDepth 100000 in
theorem x_X8_hold_1 (d : Nat) : zS l G gh (d + 2) (zpost (zAlq al_X8_hold_1)) n_X8_hold (zn 0 p_X8_hold 0) (zwc (0, [.inr (.ref 0), .inl 2147483649], zP q_X8_hold_1) 0) := zentry (tt_X8_hold d) fm_X8_hold_1 bf_X8_hold_1 1000 (by decide +kernel) rfl ⟨Nat.zero_lt_succ _, trivial⟩ (fun f hf => match f, hf with
  | 0, _ => fun vs hv => (zbox_t r_X8_hold_1_0) vs hv
  | f + 1, h => absurd (show f + 1 < 1 from h) (Nat.not_lt.mpr (Nat.le_add_left 1 f)))
noncomputable def gs_X8_hold_1 : zMt := zgq false [] 2 [.inr (.ref 0), .inl 2147483649] q_X8_hold_1 al_X8_hold_1
set_option maxRecDepth 100000 in
theorem cs_X8_hold_1 (d : Nat) : zC l G gh (d + 2) n_X8_hold gs_X8_hold_1 := zgq_ok0 (pcs := p_X8_hold) (by decide) rfl rfl (fun a ha => by simp only [al_X8_hold_1, List.mem_cons, List.not_mem_nil, or_false] at ha; rcases ha with rfl <;> decide +kernel) (fun gh => x_X8_hold_1 d) (by decide +kernel)
def q_X8_hold_2 : List (Nat × Nat) := [(0, zk12), (21, zk22), (22, zk10), (23, zk10), (24, zk10), (25, zk10), (26, zk23), (27, zk23), (247, zk100), (248, zk24), (285, zk106), (286, zk10), (287, zk10), (288, zk10), (289, zk10), (290, zk23), (291, zk23)]
noncomputable def al_X8_hold_2 : zAq := [(some (.inl 2147483649), [(0, zk12), (21, zk22), (22, zk10), (23, zk10), (24, zk10), (25, zk10), (26, zk23), (27, zk23), (247, zk100), (248, zk102), (285, zk107), (286, zk11), (287, zk11), (288, zk11), (289, zk11), (290, zk31), (291, zk31)])]
noncomputable def fm_X8_hold_2 : List zFm := [(0, [], (fun vs => [.inr (.ref 0), .inl 2147483650]), (fun vs => zP q_X8_hold_2), (fun vs => Nat.sub (Nat.add 0 0) 0))]
def bf_X8_hold_2 : List Nat := []
theorem r_X8_hold_2_0 : zbox [] (fun vs => zFrun (zpost (zAlq al_X8_hold_2)) 1000 t_X8_hold fm_X8_hold_2 bf_X8_hold_2 (0, vs)) = true := by decide +kernel
set_option maxRecDepth 100000 in
theorem x_X8_hold_2 (d : Nat) : zS l G gh (d + 2) (zpost (zAlq al_X8_hold_2)) n_X8_hold (zn 0 p_X8_hold 0) (zwc (0, [.inr (.ref 0), .inl 2147483650], zP q_X8_hold_2) 0) := zentry (tt_X8_hold d) fm_X8_hold_2 bf_X8_hold_2 1000 (by decide +kernel) rfl ⟨Nat.zero_lt_succ _, trivial⟩ (fun f hf => match f, hf with
  | 0, _ => fun vs hv => (zbox_t r_X8_hold_2_0) vs hv
  | f + 1, h => absurd (show f + 1 < 1 from h) (Nat.not_lt.mpr (Nat.le_add_left 1 f)))
noncomputable def gs_X8_hold_2 : zMt := zgq false [] 2 [.inr (.ref 0), .inl 2147483650] q_X8_hold_2 al_X8_hold_2
set_option maxRecDepth 100000 in
theorem cs_X8_hold_2 (d : Nat) : zC l G gh (d + 2) n_X8_hold gs_X8_hold_2 := zgq_ok0 (pcs := p_X8_hold) (by decide) rfl rfl (fun a ha => by simp only [al_X8_hold_2, List.mem_cons, List.not_mem_nil, or_false] at ha; rcases ha with rfl <;> decide +kernel) (fun gh => x_X8_hold_2 d) (by decide +kernel)
def q_X8_hold_3 : List (Nat × Nat) := []
noncomputable def al_X8_hold_3 : zAq := [(some (.inl 2147483648), [])]
noncomputable def fm_X8_hold_3 : List zFm := [(0, [], (fun vs => [.inr (.ref 0), .inl 6442450943]), (fun vs => zP q_X8_hold_3), (fun vs => Nat.sub (Nat.add 0 0) 0))]
def bf_X8_hold_3 : List Nat := []
theorem r_X8_hold_3_0 : zbox [] (fun vs => zFrun (zpost (zAlq al_X8_hold_3)) 1000 t_X8_hold fm_X8_hold_3 bf_X8_hold_3 (0, vs)) = true := by decide +kernel
set_option maxRecDepth 100000 in
theorem x_X8_hold_3 (d : Nat) : zS l G gh (d + 2) (zpost (zAlq al_X8_hold_3)) n_X8_hold (zn 0 p_X8_hold 0) (zwc (0, [.inr (.ref 0), .inl 6442450943], zP q_X8_hold_3) 0) := zentry (tt_X8_hold d) fm_X8_hold_3 bf_X8_hold_3 1000 (by decide +kernel) rfl ⟨Nat.zero_lt_succ _, trivial⟩ (fun f hf => match f, hf with
  | 0, _ => fun vs hv => (zbox_t r_X8_hold_3_0) vs hv
  | f + 1, h => absurd (show f + 1 < 1 from h) (Nat.not_lt.mpr (Nat.le_add_left 1 f)))
noncomputable def gs_X8_hold_3 : zMt := zgq false [] 2 [.inr (.ref 0), .inl 6442450943] q_X8_hold_3 al_X8_hold_3
set_option maxRecDepth 100000 in
theorem cs_X8_hold_3 (d : Nat) : zC l G gh (d + 2) n_X8_hold gs_X8_hold_3 := zgq_ok0 (pcs := p_X8_hold) (by decide) rfl rfl (fun a ha => by simp only [al_X8_hold_3, List.mem_cons, List.not_mem_nil, or_false] at ha; rcases ha with rfl <;> decide +kernel) (fun gh => x_X8_hold_3 d) (by decide +kernel)
def q_X8_hold_4 : List (Nat × Nat) := []
noncomputable def al_X8_hold_4 : zAq := [(some (.inl 2147483648), [])]
noncomputable def fm_X8_hold_4 : List zFm := [(0, [], (fun vs => [.inr (.ref 0), .inl 9223372058329612287]), (fun vs => zP q_X8_hold_4), (fun vs => Nat.sub (Nat.add 0 0) 0))]
def bf_X8_hold_4 : List Nat := []
theorem r_X8_hold_4_0 : zbox [] (fun vs => zFrun (zpost (zAlq al_X8_hold_4)) 1000 t_X8_hold fm_X8_hold_4 bf_X8_hold_4 (0, vs)) = true := by decide +kernel
set_option maxRecDepth 100000 in
theorem x_X8_hold_4 (d : Nat) : zS l G gh (d + 2) (zpost (zAlq al_X8_hold_4)) n_X8_hold (zn 0 p_X8_hold 0) (zwc (0, [.inr (.ref 0), .inl 9223372058329612287], zP q_X8_hold_4) 0) := zentry (tt_X8_hold d) fm_X8_hold_4 bf_X8_hold_4 1000 (by decide +kernel) rfl ⟨Nat.zero_lt_succ _, trivial⟩ (fun f hf => match f, hf with
  | 0, _ => fun vs hv => (zbox_t r_X8_hold_4_0) vs hv
  | f + 1, h => absurd (show f + 1 < 1 from h) (Nat.not_lt.mpr (Nat.le_add_left 1 f)))
noncomputable def gs_X8_hold_4 : zMt := zgq false [] 2 [.inr (.ref 0), .inl 9223372058329612287] q_X8_hold_4 al_X8_hold_4
set_option maxRecDepth 100000 in
theorem cs_X8_hold_4 (d : Nat) : zC l G gh (d + 2) n_X8_hold gs_X8_hold_4 := zgq_ok0 (pcs := p_X8_hold) (by decide) rfl rfl (fun a ha => by simp only [al_X8_hold_4, List.mem_cons, List.not_mem_nil, or_false] at ha; rcases ha with rfl <;> decide +kernel) (fun gh => x_X8_hold_4 d) (by decide +kernel)
def q_X8_hold_5 : List (Nat × Nat) := [(0, zk13), (21, zk22), (22, zk10), (23, zk10), (24, zk10), (25, zk10), (26, zk23), (27, zk23), (247, zk100), (248, zk24), (271, zk101), (272, zk10), (273, zk10), (274, zk10), (275, zk10), (276, zk23), (277, zk23)]
noncomputable def al_X8_hold_5 : zAq := [(some (.inl 2147483649), [(0, zk13), (21, zk22), (22, zk10), (23, zk10), (24, zk10), (25, zk10), (26, zk23), (27, zk23), (247, zk100), (248, zk102), (271, zk103), (272, zk11), (273, zk11), (274, zk11), (275, zk11), (276, zk31), (277, zk31)])]
noncomputable def fm_X8_hold_5 : List zFm := [(0, [], (fun vs => [.inr (.ref 0), .inl 2147483648]), (fun vs => zP q_X8_hold_5), (fun vs => Nat.sub (Nat.add 0 0) 0))]
def bf_X8_hold_5 : List Nat := []
theorem r_X8_hold_5_0 : zbox [] (fun vs => zFrun (zpost (zAlq al_X8_hold_5)) 1000 t_X8_hold fm_X8_hold_5 bf_X8_hold_5 (0, vs)) = true := by decide +kernel
set_option maxRecDepth 100000 in
theorem x_X8_hold_5 (d : Nat) : zS l G gh (d + 2) (zpost (zAlq al_X8_hold_5)) n_X8_hold (zn 0 p_X8_hold 0) (zwc (0, [.inr (.ref 0), .inl 2147483648], zP q_X8_hold_5) 0) := zentry (tt_X8_hold d) fm_X8_hold_5 bf_X8_hold_5 1000 (by decide +kernel) rfl ⟨Nat.zero_lt_succ _, trivial⟩ (fun f hf => match f, hf with
  | 0, _ => fun vs hv => (zbox_t r_X8_hold_5_0) vs hv
  | f + 1, h => absurd (show f + 1 < 1 from h) (Nat.not_lt.mpr (Nat.le_add_left 1 f)))
noncomputable def gs_X8_hold_5 : zMt := zgq false [] 2 [.inr (.ref 0), .inl 2147483648] q_X8_hold_5 al_X8_hold_5
set_option maxRecDepth 100000 in
theorem cs_X8_hold_5 (d : Nat) : zC l G gh (d + 2) n_X8_hold gs_X8_hold_5 := zgq_ok0 (pcs := p_X8_hold) (by decide) rfl rfl (fun a ha => by simp only [al_X8_hold_5, List.mem_cons, List.not_mem_nil, or_false] at ha; rcases ha with rfl <;> decide +kernel) (fun gh => x_X8_hold_5 d) (by decide +kernel)
def q_X8_hold_6 : List (Nat × Nat) := [(0, zk13), (21, zk22), (22, zk10), (23, zk10), (24, zk10), (25, zk10), (26, zk23), (27, zk23), (247, zk100), (248, zk24), (278, zk104), (279, zk10), (280, zk10), (281, zk10), (282, zk10), (283, zk23), (284, zk23)]
noncomputable def al_X8_hold_6 : zAq := [(some (.inl 2147483649), [(0, zk13), (21, zk22), (22, zk10), (23, zk10), (24, zk10), (25, zk10), (26, zk23), (27, zk23), (247, zk100), (248, zk102), (278, zk105), (279, zk11), (280, zk11), (281, zk11), (282, zk11), (283, zk31), (284, zk31)])]
noncomputable def fm_X8_hold_6 : List zFm := [(0, [], (fun vs => [.inr (.ref 0), .inl 2147483649]), (fun vs => zP q_X8_hold_6), (fun vs => Nat.sub (Nat.add 0 0) 0))]
def bf_X8_hold_6 : List Nat := []
theorem r_X8_hold_6_0 : zbox [] (fun vs => zFrun (zpost (zAlq al_X8_hold_6)) 1000 t_X8_hold fm_X8_hold_6 bf_X8_hold_6 (0, vs)) = true := by decide +kernel
set_option maxRecDepth 100000 in
theorem x_X8_hold_6 (d : Nat) : zS l G gh (d + 2) (zpost (zAlq al_X8_hold_6)) n_X8_hold (zn 0 p_X8_hold 0) (zwc (0, [.inr (.ref 0), .inl 2147483649], zP q_X8_hold_6) 0) := zentry (tt_X8_hold d) fm_X8_hold_6 bf_X8_hold_6 1000 (by decide +kernel) rfl ⟨Nat.zero_lt_succ _, trivial⟩ (fun f hf => match f, hf with
  | 0, _ => fun vs hv => (zbox_t r_X8_hold_6_0) vs hv
  | f + 1, h => absurd (show f + 1 < 1 from h) (Nat.not_lt.mpr (Nat.le_add_left 1 f)))
noncomputable def gs_X8_hold_6 : zMt := zgq false [] 2 [.inr (.ref 0), .inl 2147483649] q_X8_hold_6 al_X8_hold_6
set_option maxRecDepth 100000 in
theorem cs_X8_hold_6 (d : Nat) : zC l G gh (d + 2) n_X8_hold gs_X8_hold_6 := zgq_ok0 (pcs := p_X8_hold) (by decide) rfl rfl (fun a ha => by simp only [al_X8_hold_6, List.mem_cons, List.not_mem_nil, or_false] at ha; rcases ha with rfl <;> decide +kernel) (fun gh => x_X8_hold_6 d) (by decide +kernel)
def q_X8_hold_7 : List (Nat × Nat) := [(0, zk13), (21, zk22), (22, zk10), (23, zk10), (24, zk10), (25, zk10), (26, zk23), (27, zk23), (247, zk100), (248, zk24), (285, zk106), (286, zk10), (287, zk10), (288, zk10), (289, zk10), (290, zk23), (291, zk23)]
noncomputable def al_X8_hold_7 : zAq := [(some (.inl 2147483649), [(0, zk13), (21, zk22), (22, zk10), (23, zk10), (24, zk10), (25, zk10), (26, zk23), (27, zk23), (247, zk100), (248, zk102), (285, zk107), (286, zk11), (287, zk11), (288, zk11), (289, zk11), (290, zk31), (291, zk31)])]
noncomputable def fm_X8_hold_7 : List zFm := [(0, [], (fun vs => [.inr (.ref 0), .inl 2147483650]), (fun vs => zP q_X8_hold_7), (fun vs => Nat.sub (Nat.add 0 0) 0))]
def bf_X8_hold_7 : List Nat := []
theorem r_X8_hold_7_0 : zbox [] (fun vs => zFrun (zpost (zAlq al_X8_hold_7)) 1000 t_X8_hold fm_X8_hold_7 bf_X8_hold_7 (0, vs)) = true := by decide +kernel
set_option maxRecDepth 100000 in
theorem x_X8_hold_7 (d : Nat) : zS l G gh (d + 2) (zpost (zAlq al_X8_hold_7)) n_X8_hold (zn 0 p_X8_hold 0) (zwc (0, [.inr (.ref 0), .inl 2147483650], zP q_X8_hold_7) 0) := zentry (tt_X8_hold d) fm_X8_hold_7 bf_X8_hold_7 1000 (by decide +kernel) rfl ⟨Nat.zero_lt_succ _, trivial⟩ (fun f hf => match f, hf with
  | 0, _ => fun vs hv => (zbox_t r_X8_hold_7_0) vs hv
  | f + 1, h => absurd (show f + 1 < 1 from h) (Nat.not_lt.mpr (Nat.le_add_left 1 f)))
noncomputable def gs_X8_hold_7 : zMt := zgq false [] 2 [.inr (.ref 0), .inl 2147483650] q_X8_hold_7 al_X8_hold_7
set_option maxRecDepth 100000 in
theorem cs_X8_hold_7 (d : Nat) : zC l G gh (d + 2) n_X8_hold gs_X8_hold_7 := zgq_ok0 (pcs := p_X8_hold) (by decide) rfl rfl (fun a ha => by simp only [al_X8_hold_7, List.mem_cons, List.not_mem_nil, or_false] at ha; rcases ha with rfl <;> decide +kernel) (fun gh => x_X8_hold_7 d) (by decide +kernel)
def q_X8_hold_8 : List (Nat × Nat) := []
noncomputable def al_X8_hold_8 : zAq := [(some (.inl 2147483648), [])]
noncomputable def fm_X8_hold_8 : List zFm := [(0, [], (fun vs => [.inr (.ref 0), .inl 6442450943]), (fun vs => zP q_X8_hold_8), (fun vs => Nat.sub (Nat.add 0 0) 0))]
def bf_X8_hold_8 : List Nat := []
theorem r_X8_hold_8_0 : zbox [] (fun vs => zFrun (zpost (zAlq al_X8_hold_8)) 1000 t_X8_hold fm_X8_hold_8 bf_X8_hold_8 (0, vs)) = true := by decide +kernel
set_option maxRecDepth 100000 in
theorem x_X8_hold_8 (d : Nat) : zS l G gh (d + 2) (zpost (zAlq al_X8_hold_8)) n_X8_hold (zn 0 p_X8_hold 0) (zwc (0, [.inr (.ref 0), .inl 6442450943], zP q_X8_hold_8) 0) := zentry (tt_X8_hold d) fm_X8_hold_8 bf_X8_hold_8 1000 (by decide +kernel) rfl ⟨Nat.zero_lt_succ _, trivial⟩ (fun f hf => match f, hf with
  | 0, _ => fun vs hv => (zbox_t r_X8_hold_8_0) vs hv
  | f + 1, h => absurd (show f + 1 < 1 from h) (Nat.not_lt.mpr (Nat.le_add_left 1 f)))
noncomputable def gs_X8_hold_8 : zMt := zgq false [] 2 [.inr (.ref 0), .inl 6442450943] q_X8_hold_8 al_X8_hold_8
set_option maxRecDepth 100000 in
theorem cs_X8_hold_8 (d : Nat) : zC l G gh (d + 2) n_X8_hold gs_X8_hold_8 := zgq_ok0 (pcs := p_X8_hold) (by decide) rfl rfl (fun a ha => by simp only [al_X8_hold_8, List.mem_cons, List.not_mem_nil, or_false] at ha; rcases ha with rfl <;> decide +kernel) (fun gh => x_X8_hold_8 d) (by decide +kernel)
def q_X8_hold_9 : List (Nat × Nat) := []
noncomputable def al_X8_hold_9 : zAq := [(some (.inl 2147483648), [])]
noncomputable def fm_X8_hold_9 : List zFm := [(0, [], (fun vs => [.inr (.ref 0), .inl 9223372058329612287]), (fun vs => zP q_X8_hold_9), (fun vs => Nat.sub (Nat.add 0 0) 0))]
def bf_X8_hold_9 : List Nat := []
theorem r_X8_hold_9_0 : zbox [] (fun vs => zFrun (zpost (zAlq al_X8_hold_9)) 1000 t_X8_hold fm_X8_hold_9 bf_X8_hold_9 (0, vs)) = true := by decide +kernel
set_option maxRecDepth 100000 in
theorem x_X8_hold_9 (d : Nat) : zS l G gh (d + 2) (zpost (zAlq al_X8_hold_9)) n_X8_hold (zn 0 p_X8_hold 0) (zwc (0, [.inr (.ref 0), .inl 9223372058329612287], zP q_X8_hold_9) 0) := zentry (tt_X8_hold d) fm_X8_hold_9 bf_X8_hold_9 1000 (by decide +kernel) rfl ⟨Nat.zero_lt_succ _, trivial⟩ (fun f hf => match f, hf with
  | 0, _ => fun vs hv => (zbox_t r_X8_hold_9_0) vs hv
  | f + 1, h => absurd (show f + 1 < 1 from h) (Nat.not_lt.mpr (Nat.le_add_left 1 f)))
noncomputable def gs_X8_hold_9 : zMt := zgq false [] 2 [.inr (.ref 0), .inl 9223372058329612287] q_X8_hold_9 al_X8_hold_9
set_option maxRecDepth 100000 in
theorem cs_X8_hold_9 (d : Nat) : zC l G gh (d + 2) n_X8_hold gs_X8_hold_9 := zgq_ok0 (pcs := p_X8_hold) (by decide) rfl rfl (fun a ha => by simp only [al_X8_hold_9, List.mem_cons, List.not_mem_nil, or_false] at ha; rcases ha with rfl <;> decide +kernel) (fun gh => x_X8_hold_9 d) (by decide +kernel)
noncomputable def gs_X8_hold : zMt := (zor gs_X8_hold_0 (zor gs_X8_hold_1 (zor gs_X8_hold_2 (zor gs_X8_hold_3 (zor gs_X8_hold_4 (zor gs_X8_hold_5 (zor gs_X8_hold_6 (zor gs_X8_hold_7 (zor gs_X8_hold_8 gs_X8_hold_9)))))))))
theorem cs_X8_hold (d : Nat) : zC l G gh (d + 2) n_X8_hold gs_X8_hold := (zor_ok (cs_X8_hold_0 d) (zor_ok (cs_X8_hold_1 d) (zor_ok (cs_X8_hold_2 d) (zor_ok (cs_X8_hold_3 d) (zor_ok (cs_X8_hold_4 d) (zor_ok (cs_X8_hold_5 d) (zor_ok (cs_X8_hold_6 d) (zor_ok (cs_X8_hold_7 d) (zor_ok (cs_X8_hold_8 d) (cs_X8_hold_9 d))))))))))
def n_X8_restore : qMn := (yX8_restore, cX8_restore, 2, (some Jvm.ClassFile.FieldType.boolean), 0, 0)
theorem to_X8_restore : qTo n_X8_restore 1 := ⟨g1087, g97, ⟨by decide, by decide, by decide +kernel⟩, by decide⟩
def p_X8_restore : List Nat := [0, 4, 9, 18, 20]
noncomputable def b_X8_restore_0 : zBl := fun jp K => oNLC 1 2147483648 zltN zgeN zn1_lt zn1_ge (jp 3) (jp 1)
theorem s_X8_restore_0 (d : Nat) : zPb l G gh (d + 2) n_X8_restore p_X8_restore 0 b_X8_restore_0 := fun K jp hj =>
    z_nL0_lt (i := 1) (a1 := 1) (off := 17) (tgt := 18) (zLd_n (n := 1) (i := 1) (zd (i := .iload_n 1) (n := 1) (by decide +kernel)) rfl) (zd (i := .ifCond .lt (17)) (n := 3) (by decide +kernel)) (by decide +kernel) (zj (hj 3) (by decide +kernel)) (zj (hj 1) (by decide +kernel))
noncomputable def b_X8_restore_1 : zBl := fun jp K => oNLC 1 2147483651 zgeN zltN zn1_ge zn1_lt (jp 3) (jp 2)
theorem s_X8_restore_1 (d : Nat) : zPb l G gh (d + 2) n_X8_restore p_X8_restore 4 b_X8_restore_1 := fun K jp hj =>
    z_nLC_ge (i := 1) (c0 := 2147483651) (a1 := 1) (a2 := 1) (off := 12) (tgt := 18) (zLd_n (n := 1) (i := 1) (zd (i := .iload_n 1) (n := 1) (by decide +kernel)) rfl) (zCn_c (n := 3) (zd (i := .iconst (3)) (n := 1) (by decide +kernel)) (by decide +kernel)) (zd (i := .if_icmp .ge (12)) (n := 3) (by decide +kernel)) (by decide +kernel) (zj (hj 3) (by decide +kernel)) (zj (hj 2) (by decide +kernel))
noncomputable def b_X8_restore_2 : zBl := fun jp K => oAld 0 <| oGetR 8 6 <| oIld 1 <| oXald 12 <| oIf zne zeq (jp 4) (jp 3)
theorem s_X8_restore_2 (d : Nat) : zPb l G gh (d + 2) n_X8_restore p_X8_restore 9 b_X8_restore_2 := fun K jp hj =>
    z_aload_n (n := 0) (i := 0) (zd (i := .aload_n 0) (n := 1) (by decide +kernel)) rfl <|
    z_getR (ci := 8) (j := 6) (idx := 44) (zd (i := .getfield 44) (n := 3) (by decide +kernel)) (by decide +kernel) (by decide +kernel) rfl g458 <|
    z_iload_n (n := 1) (i := 1) (zd (i := .iload_n 1) (n := 1) (by decide +kernel)) rfl <|
    z_zald (zd (i := .baload) (n := 1) (by decide +kernel)) <|
    z_if_ne (off := 5) (tgt := 20) (zd (i := .ifCond .ne (5)) (n := 3) (by decide +kernel)) (by decide +kernel) (zj (hj 4) (by decide +kernel)) (zj (hj 3) (by decide +kernel))
noncomputable def b_X8_restore_3 : zBl := fun jp K => oInt 2147483648 <| oZret K
theorem s_X8_restore_3 (d : Nat) : zPb l G gh (d + 2) n_X8_restore p_X8_restore 18 b_X8_restore_3 := fun K jp hj =>
    z_iconst (n := 0) (zd (i := .iconst (0)) (n := 1) (by decide +kernel)) (by decide +kernel) <|
    z_zret (zd (i := .ireturn) (n := 1) (by decide +kernel)) rfl
noncomputable def b_X8_restore_4 : zBl := fun jp K => oAld 0 <| oGetR 8 2 <| oAld 0 <| oGetR 8 5 <| oIld 1 <| oAald <| oCv 4 1 f_X4_copy <| oAld 0 <| oGetR 8 4 <| oCv 3 0 f_X3_clear <| oInt 2147483649 <| oZret K
theorem s_X8_restore_4 (d : Nat) : zPb l G gh (d + 2) n_X8_restore p_X8_restore 20 b_X8_restore_4 := fun K jp hj =>
    z_aload_n (n := 0) (i := 0) (zd (i := .aload_n 0) (n := 1) (by decide +kernel)) rfl <|
    z_getR (ci := 8) (j := 2) (idx := 26) (zd (i := .getfield 26) (n := 3) (by decide +kernel)) (by decide +kernel) (by decide +kernel) rfl g454 <|
    z_aload_n (n := 0) (i := 0) (zd (i := .aload_n 0) (n := 1) (by decide +kernel)) rfl <|
    z_getR (ci := 8) (j := 5) (idx := 40) (zd (i := .getfield 40) (n := 3) (by decide +kernel)) (by decide +kernel) (by decide +kernel) rfl g457 <|
    z_iload_n (n := 1) (i := 1) (zd (i := .iload_n 1) (n := 1) (by decide +kernel)) rfl <|
    z_aald (zd (i := .aaload) (n := 1) (by decide +kernel)) <|
    z_callV (idx := 258) (ci := 4) (N := n_X4_copy) (zd (i := .invokevirtual 258) (n := 3) (by decide +kernel)) to_X4_copy g956 g841 g842 (by decide +kernel) rfl rfl rfl (c_X4_copy (l := l) (G := G) (gh := gh) (d)) <|
    z_aload_n (n := 0) (i := 0) (zd (i := .aload_n 0) (n := 1) (by decide +kernel)) rfl <|
    z_getR (ci := 8) (j := 4) (idx := 36) (zd (i := .getfield 36) (n := 3) (by decide +kernel)) (by decide +kernel) (by decide +kernel) rfl g456 <|
    z_callV (idx := 111) (ci := 3) (N := n_X3_clear) (zd (i := .invokevirtual 111) (n := 3) (by decide +kernel)) to_X3_clear g696 g697 g698 (by decide +kernel) rfl rfl rfl (c_X3_clear (l := l) (G := G) (gh := gh) (d)) <|
    z_iconst (n := 1) (zd (i := .iconst (1)) (n := 1) (by decide +kernel)) (by decide +kernel) <|
    z_zret (zd (i := .ireturn) (n := 1) (by decide +kernel)) rfl
noncomputable def t_X8_restore : List zBl := [b_X8_restore_0, b_X8_restore_1, b_X8_restore_2, b_X8_restore_3, b_X8_restore_4]
theorem tt_X8_restore (d : Nat) : zT (zPb l G gh (d + 2) n_X8_restore p_X8_restore) t_X8_restore p_X8_restore := ⟨s_X8_restore_0 d, s_X8_restore_1 d, s_X8_restore_2 d, s_X8_restore_3 d, s_X8_restore_4 d, trivial⟩
def q_X8_restore_0 : List (Nat × Nat) := [(0, zk12), (21, zk22), (22, zk10), (23, zk10), (24, zk10), (25, zk10), (26, zk23), (27, zk23), (35, zk35), (247, zk100), (248, zk24), (271, zk101), (272, zk10), (273, zk10), (274, zk10), (275, zk10), (276, zk23), (277, zk23)]
noncomputable def al_X8_restore_0 : zAq := [(some (.inl 9223372043297226753), [(0, zk12), (21, zk98), (22, zk11), (23, zk11), (24, zk11), (25, zk11), (26, zk31), (27, zk31), (35, zk67), (247, zk100), (248, zk24), (271, zk101), (272, zk10), (273, zk10), (274, zk10), (275, zk10), (276, zk23), (277, zk23)])]
noncomputable def fm_X8_restore_0 : List zFm := [(0, [], (fun vs => [.inr (.ref 0), .inl 2147483648]), (fun vs => zP q_X8_restore_0), (fun vs => Nat.sub (Nat.add 0 0) 0))]
def bf_X8_restore_0 : List Nat := []
theorem r_X8_restore_0_0 : zbox [] (fun vs => zFrun (zpost (zAlq al_X8_restore_0)) 1000 t_X8_restore fm_X8_restore_0 bf_X8_restore_0 (0, vs)) = true := by decide +kernel
set_option maxRecDepth 100000 in
theorem x_X8_restore_0 (d : Nat) : zS l G gh (d + 2) (zpost (zAlq al_X8_restore_0)) n_X8_restore (zn 0 p_X8_restore 0) (zwc (0, [.inr (.ref 0), .inl 2147483648], zP q_X8_restore_0) 0) := zentry (tt_X8_restore d) fm_X8_restore_0 bf_X8_restore_0 1000 (by decide +kernel) rfl ⟨Nat.zero_lt_succ _, trivial⟩ (fun f hf => match f, hf with
  | 0, _ => fun vs hv => (zbox_t r_X8_restore_0_0) vs hv
  | f + 1, h => absurd (show f + 1 < 1 from h) (Nat.not_lt.mpr (Nat.le_add_left 1 f)))
noncomputable def gs_X8_restore_0 : zMt := zgq false [] 2 [.inr (.ref 0), .inl 2147483648] q_X8_restore_0 al_X8_restore_0
set_option maxRecDepth 100000 in
theorem cs_X8_restore_0 (d : Nat) : zC l G gh (d + 2) n_X8_restore gs_X8_restore_0 := zgq_ok0 (pcs := p_X8_restore) (by decide) rfl rfl (fun a ha => by simp only [al_X8_restore_0, List.mem_cons, List.not_mem_nil, or_false] at ha; rcases ha with rfl <;> decide +kernel) (fun gh => x_X8_restore_0 d) (by decide +kernel)
def q_X8_restore_1 : List (Nat × Nat) := [(0, zk12), (21, zk22), (22, zk10), (23, zk10), (24, zk10), (25, zk10), (26, zk23), (27, zk23), (35, zk35), (247, zk100), (248, zk24), (278, zk104), (279, zk10), (280, zk10), (281, zk10), (282, zk10), (283, zk23), (284, zk23)]
noncomputable def al_X8_restore_1 : zAq := [(some (.inl 9223372043297226753), [(0, zk12), (21, zk98), (22, zk11), (23, zk11), (24, zk11), (25, zk11), (26, zk31), (27, zk31), (35, zk67), (247, zk100), (248, zk24), (278, zk104), (279, zk10), (280, zk10), (281, zk10), (282, zk10), (283, zk23), (284, zk23)])]
noncomputable def fm_X8_restore_1 : List zFm := [(0, [], (fun vs => [.inr (.ref 0), .inl 2147483649]), (fun vs => zP q_X8_restore_1), (fun vs => Nat.sub (Nat.add 0 0) 0))]
def bf_X8_restore_1 : List Nat := []
theorem r_X8_restore_1_0 : zbox [] (fun vs => zFrun (zpost (zAlq al_X8_restore_1)) 1000 t_X8_restore fm_X8_restore_1 bf_X8_restore_1 (0, vs)) = true := by decide +kernel
set_option maxRecDepth 100000 in
theorem x_X8_restore_1 (d : Nat) : zS l G gh (d + 2) (zpost (zAlq al_X8_restore_1)) n_X8_restore (zn 0 p_X8_restore 0) (zwc (0, [.inr (.ref 0), .inl 2147483649], zP q_X8_restore_1) 0) := zentry (tt_X8_restore d) fm_X8_restore_1 bf_X8_restore_1 1000 (by decide +kernel) rfl ⟨Nat.zero_lt_succ _, trivial⟩ (fun f hf => match f, hf with
  | 0, _ => fun vs hv => (zbox_t r_X8_restore_1_0) vs hv
  | f + 1, h => absurd (show f + 1 < 1 from h) (Nat.not_lt.mpr (Nat.le_add_left 1 f)))
noncomputable def gs_X8_restore_1 : zMt := zgq false [] 2 [.inr (.ref 0), .inl 2147483649] q_X8_restore_1 al_X8_restore_1
set_option maxRecDepth 100000 in
theorem cs_X8_restore_1 (d : Nat) : zC l G gh (d + 2) n_X8_restore gs_X8_restore_1 := zgq_ok0 (pcs := p_X8_restore) (by decide) rfl rfl (fun a ha => by simp only [al_X8_restore_1, List.mem_cons, List.not_mem_nil, or_false] at ha; rcases ha with rfl <;> decide +kernel) (fun gh => x_X8_restore_1 d) (by decide +kernel)
def q_X8_restore_2 : List (Nat × Nat) := [(0, zk12), (21, zk22), (22, zk10), (23, zk10), (24, zk10), (25, zk10), (26, zk23), (27, zk23), (35, zk35), (247, zk100), (248, zk24), (285, zk106), (286, zk10), (287, zk10), (288, zk10), (289, zk10), (290, zk23), (291, zk23)]
noncomputable def al_X8_restore_2 : zAq := [(some (.inl 9223372043297226753), [(0, zk12), (21, zk98), (22, zk11), (23, zk11), (24, zk11), (25, zk11), (26, zk31), (27, zk31), (35, zk67), (247, zk100), (248, zk24), (285, zk106), (286, zk10), (287, zk10), (288, zk10), (289, zk10), (290, zk23), (291, zk23)])]
noncomputable def fm_X8_restore_2 : List zFm := [(0, [], (fun vs => [.inr (.ref 0), .inl 2147483650]), (fun vs => zP q_X8_restore_2), (fun vs => Nat.sub (Nat.add 0 0) 0))]
def bf_X8_restore_2 : List Nat := []
theorem r_X8_restore_2_0 : zbox [] (fun vs => zFrun (zpost (zAlq al_X8_restore_2)) 1000 t_X8_restore fm_X8_restore_2 bf_X8_restore_2 (0, vs)) = true := by decide +kernel
set_option maxRecDepth 100000 in
theorem x_X8_restore_2 (d : Nat) : zS l G gh (d + 2) (zpost (zAlq al_X8_restore_2)) n_X8_restore (zn 0 p_X8_restore 0) (zwc (0, [.inr (.ref 0), .inl 2147483650], zP q_X8_restore_2) 0) := zentry (tt_X8_restore d) fm_X8_restore_2 bf_X8_restore_2 1000 (by decide +kernel) rfl ⟨Nat.zero_lt_succ _, trivial⟩ (fun f hf => match f, hf with
  | 0, _ => fun vs hv => (zbox_t r_X8_restore_2_0) vs hv
  | f + 1, h => absurd (show f + 1 < 1 from h) (Nat.not_lt.mpr (Nat.le_add_left 1 f)))
noncomputable def gs_X8_restore_2 : zMt := zgq false [] 2 [.inr (.ref 0), .inl 2147483650] q_X8_restore_2 al_X8_restore_2
set_option maxRecDepth 100000 in
theorem cs_X8_restore_2 (d : Nat) : zC l G gh (d + 2) n_X8_restore gs_X8_restore_2 := zgq_ok0 (pcs := p_X8_restore) (by decide) rfl rfl (fun a ha => by simp only [al_X8_restore_2, List.mem_cons, List.not_mem_nil, or_false] at ha; rcases ha with rfl <;> decide +kernel) (fun gh => x_X8_restore_2 d) (by decide +kernel)
def q_X8_restore_3 : List (Nat × Nat) := []
noncomputable def al_X8_restore_3 : zAq := [(some (.inl 2147483648), [])]
noncomputable def fm_X8_restore_3 : List zFm := [(0, [], (fun vs => [.inr (.ref 0), .inl 6442450943]), (fun vs => zP q_X8_restore_3), (fun vs => Nat.sub (Nat.add 0 0) 0))]
def bf_X8_restore_3 : List Nat := []
theorem r_X8_restore_3_0 : zbox [] (fun vs => zFrun (zpost (zAlq al_X8_restore_3)) 1000 t_X8_restore fm_X8_restore_3 bf_X8_restore_3 (0, vs)) = true := by decide +kernel
set_option maxRecDepth 100000 in
theorem x_X8_restore_3 (d : Nat) : zS l G gh (d + 2) (zpost (zAlq al_X8_restore_3)) n_X8_restore (zn 0 p_X8_restore 0) (zwc (0, [.inr (.ref 0), .inl 6442450943], zP q_X8_restore_3) 0) := zentry (tt_X8_restore d) fm_X8_restore_3 bf_X8_restore_3 1000 (by decide +kernel) rfl ⟨Nat.zero_lt_succ _, trivial⟩ (fun f hf => match f, hf with
  | 0, _ => fun vs hv => (zbox_t r_X8_restore_3_0) vs hv
  | f + 1, h => absurd (show f + 1 < 1 from h) (Nat.not_lt.mpr (Nat.le_add_left 1 f)))
noncomputable def gs_X8_restore_3 : zMt := zgq false [] 2 [.inr (.ref 0), .inl 6442450943] q_X8_restore_3 al_X8_restore_3
set_option maxRecDepth 100000 in
theorem cs_X8_restore_3 (d : Nat) : zC l G gh (d + 2) n_X8_restore gs_X8_restore_3 := zgq_ok0 (pcs := p_X8_restore) (by decide) rfl rfl (fun a ha => by simp only [al_X8_restore_3, List.mem_cons, List.not_mem_nil, or_false] at ha; rcases ha with rfl <;> decide +kernel) (fun gh => x_X8_restore_3 d) (by decide +kernel)
def q_X8_restore_4 : List (Nat × Nat) := []
noncomputable def al_X8_restore_4 : zAq := [(some (.inl 2147483648), [])]
noncomputable def fm_X8_restore_4 : List zFm := [(0, [], (fun vs => [.inr (.ref 0), .inl 9223372058329612287]), (fun vs => zP q_X8_restore_4), (fun vs => Nat.sub (Nat.add 0 0) 0))]
def bf_X8_restore_4 : List Nat := []
theorem r_X8_restore_4_0 : zbox [] (fun vs => zFrun (zpost (zAlq al_X8_restore_4)) 1000 t_X8_restore fm_X8_restore_4 bf_X8_restore_4 (0, vs)) = true := by decide +kernel
set_option maxRecDepth 100000 in
theorem x_X8_restore_4 (d : Nat) : zS l G gh (d + 2) (zpost (zAlq al_X8_restore_4)) n_X8_restore (zn 0 p_X8_restore 0) (zwc (0, [.inr (.ref 0), .inl 9223372058329612287], zP q_X8_restore_4) 0) := zentry (tt_X8_restore d) fm_X8_restore_4 bf_X8_restore_4 1000 (by decide +kernel) rfl ⟨Nat.zero_lt_succ _, trivial⟩ (fun f hf => match f, hf with
  | 0, _ => fun vs hv => (zbox_t r_X8_restore_4_0) vs hv
  | f + 1, h => absurd (show f + 1 < 1 from h) (Nat.not_lt.mpr (Nat.le_add_left 1 f)))
noncomputable def gs_X8_restore_4 : zMt := zgq false [] 2 [.inr (.ref 0), .inl 9223372058329612287] q_X8_restore_4 al_X8_restore_4
set_option maxRecDepth 100000 in
theorem cs_X8_restore_4 (d : Nat) : zC l G gh (d + 2) n_X8_restore gs_X8_restore_4 := zgq_ok0 (pcs := p_X8_restore) (by decide) rfl rfl (fun a ha => by simp only [al_X8_restore_4, List.mem_cons, List.not_mem_nil, or_false] at ha; rcases ha with rfl <;> decide +kernel) (fun gh => x_X8_restore_4 d) (by decide +kernel)
def q_X8_restore_5 : List (Nat × Nat) := [(0, zk13), (21, zk22), (22, zk10), (23, zk10), (24, zk10), (25, zk10), (26, zk23), (27, zk23), (35, zk35), (247, zk100), (248, zk24), (271, zk101), (272, zk10), (273, zk10), (274, zk10), (275, zk10), (276, zk23), (277, zk23)]
noncomputable def al_X8_restore_5 : zAq := [(some (.inl 9223372043297226753), [(0, zk13), (21, zk98), (22, zk11), (23, zk11), (24, zk11), (25, zk11), (26, zk31), (27, zk31), (35, zk67), (247, zk100), (248, zk24), (271, zk101), (272, zk10), (273, zk10), (274, zk10), (275, zk10), (276, zk23), (277, zk23)])]
noncomputable def fm_X8_restore_5 : List zFm := [(0, [], (fun vs => [.inr (.ref 0), .inl 2147483648]), (fun vs => zP q_X8_restore_5), (fun vs => Nat.sub (Nat.add 0 0) 0))]
def bf_X8_restore_5 : List Nat := []
theorem r_X8_restore_5_0 : zbox [] (fun vs => zFrun (zpost (zAlq al_X8_restore_5)) 1000 t_X8_restore fm_X8_restore_5 bf_X8_restore_5 (0, vs)) = true := by decide +kernel
set_option maxRecDepth 100000 in
theorem x_X8_restore_5 (d : Nat) : zS l G gh (d + 2) (zpost (zAlq al_X8_restore_5)) n_X8_restore (zn 0 p_X8_restore 0) (zwc (0, [.inr (.ref 0), .inl 2147483648], zP q_X8_restore_5) 0) := zentry (tt_X8_restore d) fm_X8_restore_5 bf_X8_restore_5 1000 (by decide +kernel) rfl ⟨Nat.zero_lt_succ _, trivial⟩ (fun f hf => match f, hf with
  | 0, _ => fun vs hv => (zbox_t r_X8_restore_5_0) vs hv
  | f + 1, h => absurd (show f + 1 < 1 from h) (Nat.not_lt.mpr (Nat.le_add_left 1 f)))
noncomputable def gs_X8_restore_5 : zMt := zgq false [] 2 [.inr (.ref 0), .inl 2147483648] q_X8_restore_5 al_X8_restore_5
set_option maxRecDepth 100000 in
theorem cs_X8_restore_5 (d : Nat) : zC l G gh (d + 2) n_X8_restore gs_X8_restore_5 := zgq_ok0 (pcs := p_X8_restore) (by decide) rfl rfl (fun a ha => by simp only [al_X8_restore_5, List.mem_cons, List.not_mem_nil, or_false] at ha; rcases ha with rfl <;> decide +kernel) (fun gh => x_X8_restore_5 d) (by decide +kernel)
def q_X8_restore_6 : List (Nat × Nat) := [(0, zk13), (21, zk22), (22, zk10), (23, zk10), (24, zk10), (25, zk10), (26, zk23), (27, zk23), (35, zk35), (247, zk100), (248, zk24), (278, zk104), (279, zk10), (280, zk10), (281, zk10), (282, zk10), (283, zk23), (284, zk23)]
noncomputable def al_X8_restore_6 : zAq := [(some (.inl 9223372043297226753), [(0, zk13), (21, zk98), (22, zk11), (23, zk11), (24, zk11), (25, zk11), (26, zk31), (27, zk31), (35, zk67), (247, zk100), (248, zk24), (278, zk104), (279, zk10), (280, zk10), (281, zk10), (282, zk10), (283, zk23), (284, zk23)])]
noncomputable def fm_X8_restore_6 : List zFm := [(0, [], (fun vs => [.inr (.ref 0), .inl 2147483649]), (fun vs => zP q_X8_restore_6), (fun vs => Nat.sub (Nat.add 0 0) 0))]
def bf_X8_restore_6 : List Nat := []
theorem r_X8_restore_6_0 : zbox [] (fun vs => zFrun (zpost (zAlq al_X8_restore_6)) 1000 t_X8_restore fm_X8_restore_6 bf_X8_restore_6 (0, vs)) = true := by decide +kernel
set_option maxRecDepth 100000 in
theorem x_X8_restore_6 (d : Nat) : zS l G gh (d + 2) (zpost (zAlq al_X8_restore_6)) n_X8_restore (zn 0 p_X8_restore 0) (zwc (0, [.inr (.ref 0), .inl 2147483649], zP q_X8_restore_6) 0) := zentry (tt_X8_restore d) fm_X8_restore_6 bf_X8_restore_6 1000 (by decide +kernel) rfl ⟨Nat.zero_lt_succ _, trivial⟩ (fun f hf => match f, hf with
  | 0, _ => fun vs hv => (zbox_t r_X8_restore_6_0) vs hv
  | f + 1, h => absurd (show f + 1 < 1 from h) (Nat.not_lt.mpr (Nat.le_add_left 1 f)))
noncomputable def gs_X8_restore_6 : zMt := zgq false [] 2 [.inr (.ref 0), .inl 2147483649] q_X8_restore_6 al_X8_restore_6
set_option maxRecDepth 100000 in
theorem cs_X8_restore_6 (d : Nat) : zC l G gh (d + 2) n_X8_restore gs_X8_restore_6 := zgq_ok0 (pcs := p_X8_restore) (by decide) rfl rfl (fun a ha => by simp only [al_X8_restore_6, List.mem_cons, List.not_mem_nil, or_false] at ha; rcases ha with rfl <;> decide +kernel) (fun gh => x_X8_restore_6 d) (by decide +kernel)
def q_X8_restore_7 : List (Nat × Nat) := [(0, zk13), (21, zk22), (22, zk10), (23, zk10), (24, zk10), (25, zk10), (26, zk23), (27, zk23), (35, zk35), (247, zk100), (248, zk24), (285, zk106), (286, zk10), (287, zk10), (288, zk10), (289, zk10), (290, zk23), (291, zk23)]
noncomputable def al_X8_restore_7 : zAq := [(some (.inl 9223372043297226753), [(0, zk13), (21, zk98), (22, zk11), (23, zk11), (24, zk11), (25, zk11), (26, zk31), (27, zk31), (35, zk67), (247, zk100), (248, zk24), (285, zk106), (286, zk10), (287, zk10), (288, zk10), (289, zk10), (290, zk23), (291, zk23)])]
noncomputable def fm_X8_restore_7 : List zFm := [(0, [], (fun vs => [.inr (.ref 0), .inl 2147483650]), (fun vs => zP q_X8_restore_7), (fun vs => Nat.sub (Nat.add 0 0) 0))]
def bf_X8_restore_7 : List Nat := []
theorem r_X8_restore_7_0 : zbox [] (fun vs => zFrun (zpost (zAlq al_X8_restore_7)) 1000 t_X8_restore fm_X8_restore_7 bf_X8_restore_7 (0, vs)) = true := by decide +kernel
set_option maxRecDepth 100000 in
theorem x_X8_restore_7 (d : Nat) : zS l G gh (d + 2) (zpost (zAlq al_X8_restore_7)) n_X8_restore (zn 0 p_X8_restore 0) (zwc (0, [.inr (.ref 0), .inl 2147483650], zP q_X8_restore_7) 0) := zentry (tt_X8_restore d) fm_X8_restore_7 bf_X8_restore_7 1000 (by decide +kernel) rfl ⟨Nat.zero_lt_succ _, trivial⟩ (fun f hf => match f, hf with
  | 0, _ => fun vs hv => (zbox_t r_X8_restore_7_0) vs hv
  | f + 1, h => absurd (show f + 1 < 1 from h) (Nat.not_lt.mpr (Nat.le_add_left 1 f)))
noncomputable def gs_X8_restore_7 : zMt := zgq false [] 2 [.inr (.ref 0), .inl 2147483650] q_X8_restore_7 al_X8_restore_7
set_option maxRecDepth 100000 in
theorem cs_X8_restore_7 (d : Nat) : zC l G gh (d + 2) n_X8_restore gs_X8_restore_7 := zgq_ok0 (pcs := p_X8_restore) (by decide) rfl rfl (fun a ha => by simp only [al_X8_restore_7, List.mem_cons, List.not_mem_nil, or_false] at ha; rcases ha with rfl <;> decide +kernel) (fun gh => x_X8_restore_7 d) (by decide +kernel)
def q_X8_restore_8 : List (Nat × Nat) := []
noncomputable def al_X8_restore_8 : zAq := [(some (.inl 2147483648), [])]
noncomputable def fm_X8_restore_8 : List zFm := [(0, [], (fun vs => [.inr (.ref 0), .inl 6442450943]), (fun vs => zP q_X8_restore_8), (fun vs => Nat.sub (Nat.add 0 0) 0))]
def bf_X8_restore_8 : List Nat := []
theorem r_X8_restore_8_0 : zbox [] (fun vs => zFrun (zpost (zAlq al_X8_restore_8)) 1000 t_X8_restore fm_X8_restore_8 bf_X8_restore_8 (0, vs)) = true := by decide +kernel
set_option maxRecDepth 100000 in
theorem x_X8_restore_8 (d : Nat) : zS l G gh (d + 2) (zpost (zAlq al_X8_restore_8)) n_X8_restore (zn 0 p_X8_restore 0) (zwc (0, [.inr (.ref 0), .inl 6442450943], zP q_X8_restore_8) 0) := zentry (tt_X8_restore d) fm_X8_restore_8 bf_X8_restore_8 1000 (by decide +kernel) rfl ⟨Nat.zero_lt_succ _, trivial⟩ (fun f hf => match f, hf with
  | 0, _ => fun vs hv => (zbox_t r_X8_restore_8_0) vs hv
  | f + 1, h => absurd (show f + 1 < 1 from h) (Nat.not_lt.mpr (Nat.le_add_left 1 f)))
noncomputable def gs_X8_restore_8 : zMt := zgq false [] 2 [.inr (.ref 0), .inl 6442450943] q_X8_restore_8 al_X8_restore_8
set_option maxRecDepth 100000 in
theorem cs_X8_restore_8 (d : Nat) : zC l G gh (d + 2) n_X8_restore gs_X8_restore_8 := zgq_ok0 (pcs := p_X8_restore) (by decide) rfl rfl (fun a ha => by simp only [al_X8_restore_8, List.mem_cons, List.not_mem_nil, or_false] at ha; rcases ha with rfl <;> decide +kernel) (fun gh => x_X8_restore_8 d) (by decide +kernel)
def q_X8_restore_9 : List (Nat × Nat) := []
noncomputable def al_X8_restore_9 : zAq := [(some (.inl 2147483648), [])]
noncomputable def fm_X8_restore_9 : List zFm := [(0, [], (fun vs => [.inr (.ref 0), .inl 9223372058329612287]), (fun vs => zP q_X8_restore_9), (fun vs => Nat.sub (Nat.add 0 0) 0))]
def bf_X8_restore_9 : List Nat := []
theorem r_X8_restore_9_0 : zbox [] (fun vs => zFrun (zpost (zAlq al_X8_restore_9)) 1000 t_X8_restore fm_X8_restore_9 bf_X8_restore_9 (0, vs)) = true := by decide +kernel
set_option maxRecDepth 100000 in
theorem x_X8_restore_9 (d : Nat) : zS l G gh (d + 2) (zpost (zAlq al_X8_restore_9)) n_X8_restore (zn 0 p_X8_restore 0) (zwc (0, [.inr (.ref 0), .inl 9223372058329612287], zP q_X8_restore_9) 0) := zentry (tt_X8_restore d) fm_X8_restore_9 bf_X8_restore_9 1000 (by decide +kernel) rfl ⟨Nat.zero_lt_succ _, trivial⟩ (fun f hf => match f, hf with
  | 0, _ => fun vs hv => (zbox_t r_X8_restore_9_0) vs hv
  | f + 1, h => absurd (show f + 1 < 1 from h) (Nat.not_lt.mpr (Nat.le_add_left 1 f)))
noncomputable def gs_X8_restore_9 : zMt := zgq false [] 2 [.inr (.ref 0), .inl 9223372058329612287] q_X8_restore_9 al_X8_restore_9
set_option maxRecDepth 100000 in
theorem cs_X8_restore_9 (d : Nat) : zC l G gh (d + 2) n_X8_restore gs_X8_restore_9 := zgq_ok0 (pcs := p_X8_restore) (by decide) rfl rfl (fun a ha => by simp only [al_X8_restore_9, List.mem_cons, List.not_mem_nil, or_false] at ha; rcases ha with rfl <;> decide +kernel) (fun gh => x_X8_restore_9 d) (by decide +kernel)
noncomputable def gs_X8_restore : zMt := (zor gs_X8_restore_0 (zor gs_X8_restore_1 (zor gs_X8_restore_2 (zor gs_X8_restore_3 (zor gs_X8_restore_4 (zor gs_X8_restore_5 (zor gs_X8_restore_6 (zor gs_X8_restore_7 (zor gs_X8_restore_8 gs_X8_restore_9)))))))))
theorem cs_X8_restore (d : Nat) : zC l G gh (d + 2) n_X8_restore gs_X8_restore := (zor_ok (cs_X8_restore_0 d) (zor_ok (cs_X8_restore_1 d) (zor_ok (cs_X8_restore_2 d) (zor_ok (cs_X8_restore_3 d) (zor_ok (cs_X8_restore_4 d) (zor_ok (cs_X8_restore_5 d) (zor_ok (cs_X8_restore_6 d) (zor_ok (cs_X8_restore_7 d) (zor_ok (cs_X8_restore_8 d) (cs_X8_restore_9 d))))))))))
def n_X2_clear : qMn := (yX2_clear, cX2_clear, 1, none, 0, 0)
theorem to_X2_clear : qTo n_X2_clear 0 := ⟨g263, g106, ⟨by decide, by decide, by decide +kernel⟩, by decide⟩
def p_X2_clear : List Nat := [0, 53]
noncomputable def b_X2_clear_0 : zBl := fun jp K => oAld 0 <| oInt 2147483648 <| oPutI 2 2 <| oAld 0 <| oInt 2147483648 <| oInt 2147483648 <| oCv 2 2 f_X2_openWithVar <| oAld 0 <| oInt 2147483649 <| oCv 2 1 f_X2_open <| oAld 0 <| oInt 2147483649 <| oInt 2147483650 <| oCv 2 2 f_X2_emit <| oPop <| oAld 0 <| oInt 2147483649 <| oInt 2147483651 <| oCv 2 2 f_X2_emit <| oPop <| oAld 0 <| oInt 2147483651 <| oInt 2147483648 <| oCv 2 2 f_X2_emit <| oPop <| oAld 0 <| oInt 2147483655 <| oInt 2147483648 <| oCv 2 2 f_X2_emit <| oPop <| oAld 0 <| oInt 2147483650 <| oCv 2 1 f_X2_open <| oAld 0 <| oInt 2147483648 <| oInt 2147483648 <| jp 1
theorem s_X2_clear_0 (d : Nat) : zPb l G gh (d + 3) n_X2_clear p_X2_clear 0 b_X2_clear_0 := fun K jp hj =>
    z_aload_n (n := 0) (i := 0) (zd (i := .aload_n 0) (n := 1) (by decide +kernel)) rfl <|
    z_iconst (n := 0) (zd (i := .iconst (0)) (n := 1) (by decide +kernel)) (by decide +kernel) <|
    z_putI (ci := 2) (j := 2) (idx := 18) (zd (i := .putfield 18) (n := 3) (by decide +kernel)) (by decide +kernel) (by decide +kernel) rfl g239 (Or.inl rfl) <|
    z_aload_n (n := 0) (i := 0) (zd (i := .aload_n 0) (n := 1) (by decide +kernel)) rfl <|
    z_iconst (n := 0) (zd (i := .iconst (0)) (n := 1) (by decide +kernel)) (by decide +kernel) <|
    z_iconst (n := 0) (zd (i := .iconst (0)) (n := 1) (by decide +kernel)) (by decide +kernel) <|
    z_callV (idx := 31) (ci := 2) (N := n_X2_openWithVar) (zd (i := .invokevirtual 31) (n := 3) (by decide +kernel)) to_X2_openWithVar g264 g266 g0 (by decide +kernel) rfl rfl rfl (c_X2_openWithVar (l := l) (G := G) (gh := gh) (d)) <|
    z_aload_n (n := 0) (i := 0) (zd (i := .aload_n 0) (n := 1) (by decide +kernel)) rfl <|
    z_iconst (n := 1) (zd (i := .iconst (1)) (n := 1) (by decide +kernel)) (by decide +kernel) <|
    z_callV (idx := 35) (ci := 2) (N := n_X2_open) (zd (i := .invokevirtual 35) (n := 3) (by decide +kernel)) to_X2_open g268 g269 g270 (by decide +kernel) rfl rfl rfl (c_X2_open (l := l) (G := G) (gh := gh) (d + 1)) <|
    z_aload_n (n := 0) (i := 0) (zd (i := .aload_n 0) (n := 1) (by decide +kernel)) rfl <|
    z_iconst (n := 1) (zd (i := .iconst (1)) (n := 1) (by decide +kernel)) (by decide +kernel) <|
    z_iconst (n := 2) (zd (i := .iconst (2)) (n := 1) (by decide +kernel)) (by decide +kernel) <|
    z_callV (idx := 39) (ci := 2) (N := n_X2_emit) (zd (i := .invokevirtual 39) (n := 3) (by decide +kernel)) to_X2_emit g272 g273 g274 (by decide +kernel) rfl rfl rfl (c_X2_emit (l := l) (G := G) (gh := gh) (d + 1)) <|
    z_pop (zd (i := .pop) (n := 1) (by decide +kernel)) <|
    z_aload_n (n := 0) (i := 0) (zd (i := .aload_n 0) (n := 1) (by decide +kernel)) rfl <|
    z_iconst (n := 1) (zd (i := .iconst (1)) (n := 1) (by decide +kernel)) (by decide +kernel) <|
    z_iconst (n := 3) (zd (i := .iconst (3)) (n := 1) (by decide +kernel)) (by decide +kernel) <|
    z_callV (idx := 39) (ci := 2) (N := n_X2_emit) (zd (i := .invokevirtual 39) (n := 3) (by decide +kernel)) to_X2_emit g272 g273 g274 (by decide +kernel) rfl rfl rfl (c_X2_emit (l := l) (G := G) (gh := gh) (d + 1)) <|
    z_pop (zd (i := .pop) (n := 1) (by decide +kernel)) <|
    z_aload_n (n := 0) (i := 0) (zd (i := .aload_n 0) (n := 1) (by decide +kernel)) rfl <|
    z_iconst (n := 3) (zd (i := .iconst (3)) (n := 1) (by decide +kernel)) (by decide +kernel) <|
    z_iconst (n := 0) (zd (i := .iconst (0)) (n := 1) (by decide +kernel)) (by decide +kernel) <|
    z_callV (idx := 39) (ci := 2) (N := n_X2_emit) (zd (i := .invokevirtual 39) (n := 3) (by decide +kernel)) to_X2_emit g272 g273 g274 (by decide +kernel) rfl rfl rfl (c_X2_emit (l := l) (G := G) (gh := gh) (d + 1)) <|
    z_pop (zd (i := .pop) (n := 1) (by decide +kernel)) <|
    z_aload_n (n := 0) (i := 0) (zd (i := .aload_n 0) (n := 1) (by decide +kernel)) rfl <|
    z_bipush (n := 7) (zd (i := .bipush (7)) (n := 2) (by decide +kernel)) (by decide +kernel) <|
    z_iconst (n := 0) (zd (i := .iconst (0)) (n := 1) (by decide +kernel)) (by decide +kernel) <|
    z_callV (idx := 39) (ci := 2) (N := n_X2_emit) (zd (i := .invokevirtual 39) (n := 3) (by decide +kernel)) to_X2_emit g272 g273 g274 (by decide +kernel) rfl rfl rfl (c_X2_emit (l := l) (G := G) (gh := gh) (d + 1)) <|
    z_pop (zd (i := .pop) (n := 1) (by decide +kernel)) <|
    z_aload_n (n := 0) (i := 0) (zd (i := .aload_n 0) (n := 1) (by decide +kernel)) rfl <|
    z_iconst (n := 2) (zd (i := .iconst (2)) (n := 1) (by decide +kernel)) (by decide +kernel) <|
    z_callV (idx := 35) (ci := 2) (N := n_X2_open) (zd (i := .invokevirtual 35) (n := 3) (by decide +kernel)) to_X2_open g268 g269 g270 (by decide +kernel) rfl rfl rfl (c_X2_open (l := l) (G := G) (gh := gh) (d + 1)) <|
    z_aload_n (n := 0) (i := 0) (zd (i := .aload_n 0) (n := 1) (by decide +kernel)) rfl <|
    z_iconst (n := 0) (zd (i := .iconst (0)) (n := 1) (by decide +kernel)) (by decide +kernel) <|
    z_iconst (n := 0) (zd (i := .iconst (0)) (n := 1) (by decide +kernel)) (by decide +kernel) <|
    (zj (hj 1) (by decide +kernel))
noncomputable def b_X2_clear_1 : zBl := fun jp K => oCv 2 2 f_X2_emit <| oPop <| oAld 0 <| oInt 2147483655 <| oInt 2147483648 <| oCv 2 2 f_X2_emit <| oPop <| oAld 0 <| oInt 2147483651 <| oInt 2147483652 <| oCv 2 2 f_X2_openWithVar <| oAld 0 <| oInt 2147483652 <| oCv 2 1 f_X2_open <| oAld 0 <| oInt 2147483648 <| oInt 2147483648 <| oCv 2 2 f_X2_emit <| oPop <| oAld 0 <| oInt 2147483655 <| oInt 2147483648 <| oCv 2 2 f_X2_emit <| oPop <| oVret K
theorem s_X2_clear_1 (d : Nat) : zPb l G gh (d + 3) n_X2_clear p_X2_clear 53 b_X2_clear_1 := fun K jp hj =>
    z_callV (idx := 39) (ci := 2) (N := n_X2_emit) (zd (i := .invokevirtual 39) (n := 3) (by decide +kernel)) to_X2_emit g272 g273 g274 (by decide +kernel) rfl rfl rfl (c_X2_emit (l := l) (G := G) (gh := gh) (d + 1)) <|
    z_pop (zd (i := .pop) (n := 1) (by decide +kernel)) <|
    z_aload_n (n := 0) (i := 0) (zd (i := .aload_n 0) (n := 1) (by decide +kernel)) rfl <|
    z_bipush (n := 7) (zd (i := .bipush (7)) (n := 2) (by decide +kernel)) (by decide +kernel) <|
    z_iconst (n := 0) (zd (i := .iconst (0)) (n := 1) (by decide +kernel)) (by decide +kernel) <|
    z_callV (idx := 39) (ci := 2) (N := n_X2_emit) (zd (i := .invokevirtual 39) (n := 3) (by decide +kernel)) to_X2_emit g272 g273 g274 (by decide +kernel) rfl rfl rfl (c_X2_emit (l := l) (G := G) (gh := gh) (d + 1)) <|
    z_pop (zd (i := .pop) (n := 1) (by decide +kernel)) <|
    z_aload_n (n := 0) (i := 0) (zd (i := .aload_n 0) (n := 1) (by decide +kernel)) rfl <|
    z_iconst (n := 3) (zd (i := .iconst (3)) (n := 1) (by decide +kernel)) (by decide +kernel) <|
    z_iconst (n := 4) (zd (i := .iconst (4)) (n := 1) (by decide +kernel)) (by decide +kernel) <|
    z_callV (idx := 31) (ci := 2) (N := n_X2_openWithVar) (zd (i := .invokevirtual 31) (n := 3) (by decide +kernel)) to_X2_openWithVar g264 g266 g0 (by decide +kernel) rfl rfl rfl (c_X2_openWithVar (l := l) (G := G) (gh := gh) (d)) <|
    z_aload_n (n := 0) (i := 0) (zd (i := .aload_n 0) (n := 1) (by decide +kernel)) rfl <|
    z_iconst (n := 4) (zd (i := .iconst (4)) (n := 1) (by decide +kernel)) (by decide +kernel) <|
    z_callV (idx := 35) (ci := 2) (N := n_X2_open) (zd (i := .invokevirtual 35) (n := 3) (by decide +kernel)) to_X2_open g268 g269 g270 (by decide +kernel) rfl rfl rfl (c_X2_open (l := l) (G := G) (gh := gh) (d + 1)) <|
    z_aload_n (n := 0) (i := 0) (zd (i := .aload_n 0) (n := 1) (by decide +kernel)) rfl <|
    z_iconst (n := 0) (zd (i := .iconst (0)) (n := 1) (by decide +kernel)) (by decide +kernel) <|
    z_iconst (n := 0) (zd (i := .iconst (0)) (n := 1) (by decide +kernel)) (by decide +kernel) <|
    z_callV (idx := 39) (ci := 2) (N := n_X2_emit) (zd (i := .invokevirtual 39) (n := 3) (by decide +kernel)) to_X2_emit g272 g273 g274 (by decide +kernel) rfl rfl rfl (c_X2_emit (l := l) (G := G) (gh := gh) (d + 1)) <|
    z_pop (zd (i := .pop) (n := 1) (by decide +kernel)) <|
    z_aload_n (n := 0) (i := 0) (zd (i := .aload_n 0) (n := 1) (by decide +kernel)) rfl <|
    z_bipush (n := 7) (zd (i := .bipush (7)) (n := 2) (by decide +kernel)) (by decide +kernel) <|
    z_iconst (n := 0) (zd (i := .iconst (0)) (n := 1) (by decide +kernel)) (by decide +kernel) <|
    z_callV (idx := 39) (ci := 2) (N := n_X2_emit) (zd (i := .invokevirtual 39) (n := 3) (by decide +kernel)) to_X2_emit g272 g273 g274 (by decide +kernel) rfl rfl rfl (c_X2_emit (l := l) (G := G) (gh := gh) (d + 1)) <|
    z_pop (zd (i := .pop) (n := 1) (by decide +kernel)) <|
    z_vret (zd (i := .return_) (n := 1) (by decide +kernel)) rfl
noncomputable def t_X2_clear : List zBl := [b_X2_clear_0, b_X2_clear_1]
theorem tt_X2_clear (d : Nat) : zT (zPb l G gh (d + 3) n_X2_clear p_X2_clear) t_X2_clear p_X2_clear := ⟨s_X2_clear_0 d, s_X2_clear_1 d, trivial⟩
noncomputable def f_X2_clear : zMt := zmet 1 t_X2_clear
theorem c_X2_clear (d : Nat) : zC l G gh (d + 3) n_X2_clear f_X2_clear := zmet_ok (pcs := p_X2_clear) (by decide) rfl rfl (tt_X2_clear d)
def n_J0_indexOf_7cf53 : qMn := (yJ0_indexOf_7cf53, cJ0_indexOf_7cf53, 3, (some Jvm.ClassFile.FieldType.int), 0, 0)
theorem to_J0_indexOf_7cf53 : qTo n_J0_indexOf_7cf53 2 := ⟨g566, g101, ⟨by decide, by decide, by decide +kernel⟩, by decide⟩
def p_J0_indexOf_7cf53 : List Nat := [0, 7, 23, 36]
noncomputable def b_J0_indexOf_7cf53_0 : zBl := fun jp K => oAld 0 <| oCt 0 f_J0_isLatin1_aae02 <| oIf zeq zne (jp 2) (jp 1)
theorem s_J0_indexOf_7cf53_0 (d : Nat) : zPb l G gh (d + 3) n_J0_indexOf_7cf53 p_J0_indexOf_7cf53 0 b_J0_indexOf_7cf53_0 := fun K jp hj =>
    z_aload_n (n := 0) (i := 0) (zd (i := .aload_n 0) (n := 1) (by decide +kernel)) rfl <|
    z_callT (idx := 492) (N := n_J0_isLatin1_aae02) (zd (i := .invokevirtual 492) (n := 3) (by decide +kernel)) to_J0_isLatin1_aae02 g166 g167 g168 rfl rfl rfl (c_J0_isLatin1_aae02 (l := l) (G := G) (gh := gh) (d + 1)) <|
    z_if_eq (off := 19) (tgt := 23) (zd (i := .ifCond .eq (19)) (n := 3) (by decide +kernel)) (by decide +kernel) (zj (hj 2) (by decide +kernel)) (zj (hj 1) (by decide +kernel))
noncomputable def b_J0_indexOf_7cf53_1 : zBl := fun jp K => oAld 0 <| oSval <| oIld 1 <| oIld 2 <| oAld 0 <| oCt 0 f_J0_length_8abf5 <| oCs 4 f_J1_indexOf_4cfef <| jp 3
theorem s_J0_indexOf_7cf53_1 (d : Nat) : zPb l G gh (d + 3) n_J0_indexOf_7cf53 p_J0_indexOf_7cf53 7 b_J0_indexOf_7cf53_1 := fun K jp hj =>
    z_aload_n (n := 0) (i := 0) (zd (i := .aload_n 0) (n := 1) (by decide +kernel)) rfl <|
    z_sVal (idx := 9) (zd (i := .getfield 9) (n := 3) (by decide +kernel)) g1713 <|
    z_iload_n (n := 1) (i := 1) (zd (i := .iload_n 1) (n := 1) (by decide +kernel)) rfl <|
    z_iload_n (n := 2) (i := 2) (zd (i := .iload_n 2) (n := 1) (by decide +kernel)) rfl <|
    z_aload_n (n := 0) (i := 0) (zd (i := .aload_n 0) (n := 1) (by decide +kernel)) rfl <|
    z_callT (idx := 505) (N := n_J0_length_8abf5) (zd (i := .invokevirtual 505) (n := 3) (by decide +kernel)) to_J0_length_8abf5 g567 g153 g154 rfl rfl rfl (c_J0_length_8abf5 (l := l) (G := G) (gh := gh) (d)) <|
    z_callS (idx := 637) (N := n_J1_indexOf_4cfef) (zd (i := .invokestatic 637) (n := 3) (by decide +kernel)) to_J1_indexOf_4cfef g568 g569 rfl rfl (c_J1_indexOf_4cfef (l := l) (G := G) (gh := gh) (d)) <|
    z_goto (off := 16) (tgt := 36) (zd (i := .goto (16)) (n := 3) (by decide +kernel)) (by decide +kernel) (zj (hj 3) (by decide +kernel))
noncomputable def b_J0_indexOf_7cf53_3 : zBl := fun jp K => oIret K
theorem s_J0_indexOf_7cf53_3 (d : Nat) : zPb l G gh (d + 3) n_J0_indexOf_7cf53 p_J0_indexOf_7cf53 36 b_J0_indexOf_7cf53_3 := fun K jp hj =>
    z_iret (zd (i := .ireturn) (n := 1) (by decide +kernel)) rfl
noncomputable def t_J0_indexOf_7cf53 : List zBl := [b_J0_indexOf_7cf53_0, b_J0_indexOf_7cf53_1, zfl, b_J0_indexOf_7cf53_3]
theorem tt_J0_indexOf_7cf53 (d : Nat) : zT (zPb l G gh (d + 3) n_J0_indexOf_7cf53 p_J0_indexOf_7cf53) t_J0_indexOf_7cf53 p_J0_indexOf_7cf53 := ⟨s_J0_indexOf_7cf53_0 d, s_J0_indexOf_7cf53_1 d, (fun _ _ _ => z_fail), s_J0_indexOf_7cf53_3 d, trivial⟩
noncomputable def f_J0_indexOf_7cf53 : zMt := zmet 3 t_J0_indexOf_7cf53
theorem c_J0_indexOf_7cf53 (d : Nat) : zC l G gh (d + 3) n_J0_indexOf_7cf53 f_J0_indexOf_7cf53 := zmet_ok (pcs := p_J0_indexOf_7cf53) (by decide) rfl rfl (tt_J0_indexOf_7cf53 d)
def n_X1_takeStander : qMn := (yX1_takeStander, cX1_takeStander, 7, none, 0, 0)
theorem to_X1_takeStander : qTo n_X1_takeStander 1 := ⟨g633, g99, ⟨by decide, by decide, by decide +kernel⟩, by decide⟩
def p_X1_takeStander : List Nat := [0, 35, 39, 40, 50, 61, 67, 80, 90, 98, 107, 119]
noncomputable def b_X1_takeStander_0 : zBl := fun jp K => oAld 0 <| oGetR 1 0 <| oGetR 6 2 <| oAld 0 <| oGetI 1 2 <| oXald 10 <| oIst 2 <| oAld 0 <| oGetR 1 0 <| oGetR 6 3 <| oAld 0 <| oGetI 1 2 <| oLald <| oLst 3 <| oAld 0 <| oNFC 0 1 3 2147483650 zneN zeqN zn1_ne zn1_eq (jp 2) (jp 1)
theorem s_X1_takeStander_0 (d : Nat) : zPb l G gh (d + 3) n_X1_takeStander p_X1_takeStander 0 b_X1_takeStander_0 := fun K jp hj =>
    z_aload_n (n := 0) (i := 0) (zd (i := .aload_n 0) (n := 1) (by decide +kernel)) rfl <|
    z_getR (ci := 1) (j := 0) (idx := 12) (zd (i := .getfield 12) (n := 3) (by decide +kernel)) (by decide +kernel) (by decide +kernel) rfl g335 <|
    z_getR (ci := 6) (j := 2) (idx := 58) (zd (i := .getfield 58) (n := 3) (by decide +kernel)) (by decide +kernel) (by decide +kernel) rfl g208 <|
    z_aload_n (n := 0) (i := 0) (zd (i := .aload_n 0) (n := 1) (by decide +kernel)) rfl <|
    z_getI (ci := 1) (j := 2) (idx := 25) (zd (i := .getfield 25) (n := 3) (by decide +kernel)) (by decide +kernel) (by decide +kernel) rfl g337 <|
    z_iald (zd (i := .iaload) (n := 1) (by decide +kernel)) <|
    z_istore_n (n := 2) (i := 2) (zd (i := .istore_n 2) (n := 1) (by decide +kernel)) rfl (by decide +kernel) <|
    z_aload_n (n := 0) (i := 0) (zd (i := .aload_n 0) (n := 1) (by decide +kernel)) rfl <|
    z_getR (ci := 1) (j := 0) (idx := 12) (zd (i := .getfield 12) (n := 3) (by decide +kernel)) (by decide +kernel) (by decide +kernel) rfl g335 <|
    z_getR (ci := 6) (j := 3) (idx := 84) (zd (i := .getfield 84) (n := 3) (by decide +kernel)) (by decide +kernel) (by decide +kernel) rfl g210 <|
    z_aload_n (n := 0) (i := 0) (zd (i := .aload_n 0) (n := 1) (by decide +kernel)) rfl <|
    z_getI (ci := 1) (j := 2) (idx := 25) (zd (i := .getfield 25) (n := 3) (by decide +kernel)) (by decide +kernel) (by decide +kernel) rfl g337 <|
    z_lald (zd (i := .laload) (n := 1) (by decide +kernel)) <|
    z_lstore_n (n := 3) (i := 3) (zd (i := .lstore_n 3) (n := 1) (by decide +kernel)) rfl (by decide +kernel) <|
    z_aload_n (n := 0) (i := 0) (zd (i := .aload_n 0) (n := 1) (by decide +kernel)) rfl <|
    z_nFC_ne (r := 0) (ci := 1) (j := 3) (c0 := 2147483650) (a1 := 4) (a2 := 1) (off := 7) (tgt := 39) (zFd_n (n := 0) (r := 0) (ci := 1) (j := 3) (idx := 29) (zd (i := .aload_n 0) (n := 1) (by decide +kernel)) rfl (zd (i := .getfield 29) (n := 3) (by decide +kernel)) (by decide +kernel) (by decide +kernel) rfl g338) (by decide +kernel) rfl (zCn_c (n := 2) (zd (i := .iconst (2)) (n := 1) (by decide +kernel)) (by decide +kernel)) (zd (i := .if_icmp .ne (7)) (n := 3) (by decide +kernel)) (by decide +kernel) (zj (hj 2) (by decide +kernel)) (zj (hj 1) (by decide +kernel))
noncomputable def b_X1_takeStander_1 : zBl := fun jp K => oInt 2147483649 <| jp 3
theorem s_X1_takeStander_1 (d : Nat) : zPb l G gh (d + 3) n_X1_takeStander p_X1_takeStander 35 b_X1_takeStander_1 := fun K jp hj =>
    z_iconst (n := 1) (zd (i := .iconst (1)) (n := 1) (by decide +kernel)) (by decide +kernel) <|
    z_goto (off := 4) (tgt := 40) (zd (i := .goto (4)) (n := 3) (by decide +kernel)) (by decide +kernel) (zj (hj 3) (by decide +kernel))
noncomputable def b_X1_takeStander_2 : zBl := fun jp K => oInt 2147483648 <| jp 3
theorem s_X1_takeStander_2 (d : Nat) : zPb l G gh (d + 3) n_X1_takeStander p_X1_takeStander 39 b_X1_takeStander_2 := fun K jp hj =>
    z_iconst (n := 0) (zd (i := .iconst (0)) (n := 1) (by decide +kernel)) (by decide +kernel) <|
    (zj (hj 3) (by decide +kernel))
noncomputable def b_X1_takeStander_3 : zBl := fun jp K => oCv 1 1 gs_X1_take <| oNFC 0 1 4 2147483648 zneN zeqN zn1_ne zn1_eq (jp 6) (jp 4)
theorem s_X1_takeStander_3 (d : Nat) : zPb l G gh (d + 3) n_X1_takeStander p_X1_takeStander 40 b_X1_takeStander_3 := fun K jp hj =>
    z_callV (idx := 71) (ci := 1) (N := n_X1_take) (zd (i := .invokevirtual 71) (n := 3) (by decide +kernel)) to_X1_take g626 g628 g7 (by decide +kernel) rfl rfl rfl (cs_X1_take (l := l) (G := G) (gh := gh) (d + 1)) <|
    z_nF0_ne (r := 0) (ci := 1) (j := 4) (a1 := 4) (off := 20) (tgt := 67) (zFd_n (n := 0) (r := 0) (ci := 1) (j := 4) (idx := 32) (zd (i := .aload_n 0) (n := 1) (by decide +kernel)) rfl (zd (i := .getfield 32) (n := 3) (by decide +kernel)) (by decide +kernel) (by decide +kernel) rfl g339) (by decide +kernel) rfl (zd (i := .ifCond .ne (20)) (n := 3) (by decide +kernel)) (by decide +kernel) (zj (hj 6) (by decide +kernel)) (zj (hj 4) (by decide +kernel))
noncomputable def b_X1_takeStander_4 : zBl := fun jp K => oAld 0 <| oGetR 1 1 <| oLld 3 <| oCv 0 1 gs_X0_addName <| oIf zne zeq (jp 6) (jp 5)
theorem s_X1_takeStander_4 (d : Nat) : zPb l G gh (d + 3) n_X1_takeStander p_X1_takeStander 50 b_X1_takeStander_4 := fun K jp hj =>
    z_aload_n (n := 0) (i := 0) (zd (i := .aload_n 0) (n := 1) (by decide +kernel)) rfl <|
    z_getR (ci := 1) (j := 1) (idx := 21) (zd (i := .getfield 21) (n := 3) (by decide +kernel)) (by decide +kernel) (by decide +kernel) rfl g336 <|
    z_lload_n (n := 3) (i := 3) (zd (i := .lload_n 3) (n := 1) (by decide +kernel)) rfl <|
    z_callV (idx := 88) (ci := 0) (N := n_X0_addName) (zd (i := .invokevirtual 88) (n := 3) (by decide +kernel)) to_X0_addName g634 g635 g636 (by decide +kernel) rfl rfl rfl (cs_X0_addName (l := l) (G := G) (gh := gh) (d + 1)) <|
    z_if_ne (off := 9) (tgt := 67) (zd (i := .ifCond .ne (9)) (n := 3) (by decide +kernel)) (by decide +kernel) (zj (hj 6) (by decide +kernel)) (zj (hj 5) (by decide +kernel))
noncomputable def b_X1_takeStander_5 : zBl := fun jp K => oAld 0 <| oInt 2147483651 <| oIld 2 <| oCv 1 2 f_X1_note <| jp 6
theorem s_X1_takeStander_5 (d : Nat) : zPb l G gh (d + 3) n_X1_takeStander p_X1_takeStander 61 b_X1_takeStander_5 := fun K jp hj =>
    z_aload_n (n := 0) (i := 0) (zd (i := .aload_n 0) (n := 1) (by decide +kernel)) rfl <|
    z_iconst (n := 3) (zd (i := .iconst (3)) (n := 1) (by decide +kernel)) (by decide +kernel) <|
    z_iload_n (n := 2) (i := 2) (zd (i := .iload_n 2) (n := 1) (by decide +kernel)) rfl <|
    z_callV (idx := 92) (ci := 1) (N := n_X1_note) (zd (i := .invokevirtual 92) (n := 3) (by decide +kernel)) to_X1_note g638 g640 g9 (by decide +kernel) rfl rfl rfl (c_X1_note (l := l) (G := G) (gh := gh) (d + 1)) <|
    (zj (hj 6) (by decide +kernel))
noncomputable def b_X1_takeStander_6 : zBl := fun jp K => oAld 0 <| oInt 2147483648 <| oInt 2147483667 <| oCv 1 2 gs_X1_takeInt <| oIst 5 <| oNLC 1 2147483648 zeqN zneN zn1_eq zn1_ne (jp 8) (jp 7)
theorem s_X1_takeStander_6 (d : Nat) : zPb l G gh (d + 3) n_X1_takeStander p_X1_takeStander 67 b_X1_takeStander_6 := fun K jp hj =>
    z_aload_n (n := 0) (i := 0) (zd (i := .aload_n 0) (n := 1) (by decide +kernel)) rfl <|
    z_iconst (n := 0) (zd (i := .iconst (0)) (n := 1) (by decide +kernel)) (by decide +kernel) <|
    z_bipush (n := 19) (zd (i := .bipush (19)) (n := 2) (by decide +kernel)) (by decide +kernel) <|
    z_callV (idx := 96) (ci := 1) (N := n_X1_takeInt) (zd (i := .invokevirtual 96) (n := 3) (by decide +kernel)) to_X1_takeInt g642 g644 g10 (by decide +kernel) rfl rfl rfl (cs_X1_takeInt (l := l) (G := G) (gh := gh) (d)) <|
    z_istore (i := 5) (zd (i := .istore 5) (n := 2) (by decide +kernel)) (by decide +kernel) <|
    z_nL0_eq (i := 1) (a1 := 1) (off := 13) (tgt := 90) (zLd_n (n := 1) (i := 1) (zd (i := .iload_n 1) (n := 1) (by decide +kernel)) rfl) (zd (i := .ifCond .eq (13)) (n := 3) (by decide +kernel)) (by decide +kernel) (zj (hj 8) (by decide +kernel)) (zj (hj 7) (by decide +kernel))
noncomputable def b_X1_takeStander_7 : zBl := fun jp K => oAld 0 <| oInt 2147483649 <| oInt 2147483657 <| oCv 1 2 gs_X1_takeInt <| jp 9
theorem s_X1_takeStander_7 (d : Nat) : zPb l G gh (d + 3) n_X1_takeStander p_X1_takeStander 80 b_X1_takeStander_7 := fun K jp hj =>
    z_aload_n (n := 0) (i := 0) (zd (i := .aload_n 0) (n := 1) (by decide +kernel)) rfl <|
    z_iconst (n := 1) (zd (i := .iconst (1)) (n := 1) (by decide +kernel)) (by decide +kernel) <|
    z_bipush (n := 9) (zd (i := .bipush (9)) (n := 2) (by decide +kernel)) (by decide +kernel) <|
    z_callV (idx := 96) (ci := 1) (N := n_X1_takeInt) (zd (i := .invokevirtual 96) (n := 3) (by decide +kernel)) to_X1_takeInt g642 g644 g10 (by decide +kernel) rfl rfl rfl (cs_X1_takeInt (l := l) (G := G) (gh := gh) (d)) <|
    z_goto (off := 11) (tgt := 98) (zd (i := .goto (11)) (n := 3) (by decide +kernel)) (by decide +kernel) (zj (hj 9) (by decide +kernel))
noncomputable def b_X1_takeStander_8 : zBl := fun jp K => oAld 0 <| oInt 2147483648 <| oInt 2147484647 <| oCv 1 2 gs_X1_takeInt <| jp 9
theorem s_X1_takeStander_8 (d : Nat) : zPb l G gh (d + 3) n_X1_takeStander p_X1_takeStander 90 b_X1_takeStander_8 := fun K jp hj =>
    z_aload_n (n := 0) (i := 0) (zd (i := .aload_n 0) (n := 1) (by decide +kernel)) rfl <|
    z_iconst (n := 0) (zd (i := .iconst (0)) (n := 1) (by decide +kernel)) (by decide +kernel) <|
    z_sipush (n := 999) (zd (i := .sipush (999)) (n := 3) (by decide +kernel)) (by decide +kernel) <|
    z_callV (idx := 96) (ci := 1) (N := n_X1_takeInt) (zd (i := .invokevirtual 96) (n := 3) (by decide +kernel)) to_X1_takeInt g642 g644 g10 (by decide +kernel) rfl rfl rfl (cs_X1_takeInt (l := l) (G := G) (gh := gh) (d)) <|
    (zj (hj 9) (by decide +kernel))
noncomputable def b_X1_takeStander_9 : zBl := fun jp K => oIst 6 <| oNFC 0 1 4 2147483648 zneN zeqN zn1_ne zn1_eq (jp 11) (jp 10)
theorem s_X1_takeStander_9 (d : Nat) : zPb l G gh (d + 3) n_X1_takeStander p_X1_takeStander 98 b_X1_takeStander_9 := fun K jp hj =>
    z_istore (i := 6) (zd (i := .istore 6) (n := 2) (by decide +kernel)) (by decide +kernel) <|
    z_nF0_ne (r := 0) (ci := 1) (j := 4) (a1 := 4) (off := 15) (tgt := 119) (zFd_n (n := 0) (r := 0) (ci := 1) (j := 4) (idx := 32) (zd (i := .aload_n 0) (n := 1) (by decide +kernel)) rfl (zd (i := .getfield 32) (n := 3) (by decide +kernel)) (by decide +kernel) (by decide +kernel) rfl g339) (by decide +kernel) rfl (zd (i := .ifCond .ne (15)) (n := 3) (by decide +kernel)) (by decide +kernel) (zj (hj 11) (by decide +kernel)) (zj (hj 10) (by decide +kernel))
noncomputable def b_X1_takeStander_10 : zBl := fun jp K => oAld 0 <| oGetR 1 1 <| oIld 1 <| oIld 5 <| oIld 6 <| oCv 0 3 gs_X0_addStander <| jp 11
theorem s_X1_takeStander_10 (d : Nat) : zPb l G gh (d + 3) n_X1_takeStander p_X1_takeStander 107 b_X1_takeStander_10 := fun K jp hj =>
    z_aload_n (n := 0) (i := 0) (zd (i := .aload_n 0) (n := 1) (by decide +kernel)) rfl <|
    z_getR (ci := 1) (j := 1) (idx := 21) (zd (i := .getfield 21) (n := 3) (by decide +kernel)) (by decide +kernel) (by decide +kernel) rfl g336 <|
    z_iload_n (n := 1) (i := 1) (zd (i := .iload_n 1) (n := 1) (by decide +kernel)) rfl <|
    z_iload (i := 5) (zd (i := .iload 5) (n := 2) (by decide +kernel)) <|
    z_iload (i := 6) (zd (i := .iload 6) (n := 2) (by decide +kernel)) <|
    z_callV (idx := 100) (ci := 0) (N := n_X0_addStander) (zd (i := .invokevirtual 100) (n := 3) (by decide +kernel)) to_X0_addStander g646 g647 g648 (by decide +kernel) rfl rfl rfl (cs_X0_addStander (l := l) (G := G) (gh := gh) (d + 1)) <|
    (zj (hj 11) (by decide +kernel))
noncomputable def b_X1_takeStander_11 : zBl := fun jp K => oVret K
theorem s_X1_takeStander_11 (d : Nat) : zPb l G gh (d + 3) n_X1_takeStander p_X1_takeStander 119 b_X1_takeStander_11 := fun K jp hj =>
    z_vret (zd (i := .return_) (n := 1) (by decide +kernel)) rfl
noncomputable def t_X1_takeStander : List zBl := [b_X1_takeStander_0, b_X1_takeStander_1, b_X1_takeStander_2, b_X1_takeStander_3, b_X1_takeStander_4, b_X1_takeStander_5, b_X1_takeStander_6, b_X1_takeStander_7, b_X1_takeStander_8, b_X1_takeStander_9, b_X1_takeStander_10, b_X1_takeStander_11]
theorem tt_X1_takeStander (d : Nat) : zT (zPb l G gh (d + 3) n_X1_takeStander p_X1_takeStander) t_X1_takeStander p_X1_takeStander := ⟨s_X1_takeStander_0 d, s_X1_takeStander_1 d, s_X1_takeStander_2 d, s_X1_takeStander_3 d, s_X1_takeStander_4 d, s_X1_takeStander_5 d, s_X1_takeStander_6 d, s_X1_takeStander_7 d, s_X1_takeStander_8 d, s_X1_takeStander_9 d, s_X1_takeStander_10 d, s_X1_takeStander_11 d, trivial⟩
def q_X1_takeStander_0 : List (Nat × Nat) := [(3, zk1), (4, zk0), (6, zk2), (7, zk2), (8, 143923), (9, zk6), (10, 131475), (11, zk10), (12, zk10), (13, zk10), (14, zk10)]
noncomputable def al_X1_takeStander_0 : zAq := [(none, [(3, zk3), (4, zk0), (6, zk2), (7, zk2), (8, 143923), (9, zk7), (10, 403), (11, zk11), (12, zk11), (13, zk11), (14, zk11)])]
noncomputable def fm_X1_takeStander_0 : List zFm := [(0, [], (fun vs => [.inr (.ref 3), .inl 9223372043297226753]), (fun vs => zP q_X1_takeStander_0), (fun vs => Nat.sub (Nat.add 0 0) 0))]
def bf_X1_takeStander_0 : List Nat := []
theorem r_X1_takeStander_0_0 : zbox [] (fun vs => zFrun (zpost (zAlq al_X1_takeStander_0)) 1000 t_X1_takeStander fm_X1_takeStander_0 bf_X1_takeStander_0 (0, vs)) = true := by decide +kernel
set_option maxRecDepth 100000 in
theorem x_X1_takeStander_0 (d : Nat) : zS l G gh (d + 3) (zpost (zAlq al_X1_takeStander_0)) n_X1_takeStander (zn 0 p_X1_takeStander 0) (zwc (0, [.inr (.ref 3), .inl 9223372043297226753], zP q_X1_takeStander_0) 0) := zentry (tt_X1_takeStander d) fm_X1_takeStander_0 bf_X1_takeStander_0 1000 (by decide +kernel) rfl ⟨Nat.zero_lt_succ _, trivial⟩ (fun f hf => match f, hf with
  | 0, _ => fun vs hv => (zbox_t r_X1_takeStander_0_0) vs hv
  | f + 1, h => absurd (show f + 1 < 1 from h) (Nat.not_lt.mpr (Nat.le_add_left 1 f)))
noncomputable def gs_X1_takeStander_0 : zMt := zgq false [] 7 [.inr (.ref 3), .inl 9223372043297226753] q_X1_takeStander_0 al_X1_takeStander_0
set_option maxRecDepth 100000 in
theorem cs_X1_takeStander_0 (d : Nat) : zC l G gh (d + 3) n_X1_takeStander gs_X1_takeStander_0 := zgq_ok0 (pcs := p_X1_takeStander) (by decide) rfl rfl (fun a ha => by simp only [al_X1_takeStander_0, List.mem_cons, List.not_mem_nil, or_false] at ha; rcases ha with rfl <;> decide +kernel) (fun gh => x_X1_takeStander_0 d) (by decide +kernel)
def q_X1_takeStander_1 : List (Nat × Nat) := [(3, zk4), (4, zk0), (6, zk2), (7, zk2), (8, 143923), (259, zk8), (260, 131475), (261, zk10), (262, zk10), (263, zk10), (264, zk10)]
noncomputable def al_X1_takeStander_1 : zAq := [(none, [(3, zk5), (4, zk0), (6, zk2), (7, zk2), (8, 143923), (259, zk9), (260, 403), (261, zk11), (262, zk11), (263, zk11), (264, zk11)])]
noncomputable def fm_X1_takeStander_1 : List zFm := [(0, [], (fun vs => [.inr (.ref 3), .inl 9223372043297226753]), (fun vs => zP q_X1_takeStander_1), (fun vs => Nat.sub (Nat.add 0 0) 0))]
def bf_X1_takeStander_1 : List Nat := []
theorem r_X1_takeStander_1_0 : zbox [] (fun vs => zFrun (zpost (zAlq al_X1_takeStander_1)) 1000 t_X1_takeStander fm_X1_takeStander_1 bf_X1_takeStander_1 (0, vs)) = true := by decide +kernel
set_option maxRecDepth 100000 in
theorem x_X1_takeStander_1 (d : Nat) : zS l G gh (d + 3) (zpost (zAlq al_X1_takeStander_1)) n_X1_takeStander (zn 0 p_X1_takeStander 0) (zwc (0, [.inr (.ref 3), .inl 9223372043297226753], zP q_X1_takeStander_1) 0) := zentry (tt_X1_takeStander d) fm_X1_takeStander_1 bf_X1_takeStander_1 1000 (by decide +kernel) rfl ⟨Nat.zero_lt_succ _, trivial⟩ (fun f hf => match f, hf with
  | 0, _ => fun vs hv => (zbox_t r_X1_takeStander_1_0) vs hv
  | f + 1, h => absurd (show f + 1 < 1 from h) (Nat.not_lt.mpr (Nat.le_add_left 1 f)))
noncomputable def gs_X1_takeStander_1 : zMt := zgq false [] 7 [.inr (.ref 3), .inl 9223372043297226753] q_X1_takeStander_1 al_X1_takeStander_1
set_option maxRecDepth 100000 in
theorem cs_X1_takeStander_1 (d : Nat) : zC l G gh (d + 3) n_X1_takeStander gs_X1_takeStander_1 := zgq_ok0 (pcs := p_X1_takeStander) (by decide) rfl rfl (fun a ha => by simp only [al_X1_takeStander_1, List.mem_cons, List.not_mem_nil, or_false] at ha; rcases ha with rfl <;> decide +kernel) (fun gh => x_X1_takeStander_1 d) (by decide +kernel)
noncomputable def gs_X1_takeStander : zMt := (zor gs_X1_takeStander_0 gs_X1_takeStander_1)
theorem cs_X1_takeStander (d : Nat) : zC l G gh (d + 3) n_X1_takeStander gs_X1_takeStander := (zor_ok (cs_X1_takeStander_0 d) (cs_X1_takeStander_1 d))
def n_X1_takeSetting : qMn := (yX1_takeSetting, cX1_takeSetting, 2, none, 0, 0)
theorem to_X1_takeSetting : qTo n_X1_takeSetting 1 := ⟨g675, g99, ⟨by decide, by decide, by decide +kernel⟩, by decide⟩
def p_X1_takeSetting : List Nat := [0, 32, 49, 66, 83, 101, 106]
noncomputable def b_X1_takeSetting_0 : zBl := fun jp K => oIld 1 <| oTab 2147483783 [jp 1, jp 2, jp 3, jp 4] (jp 5)
theorem s_X1_takeSetting_0 (d : Nat) : zPb l G gh (d + 3) n_X1_takeSetting p_X1_takeSetting 0 b_X1_takeSetting_0 := fun K jp hj =>
    z_iload_n (n := 1) (i := 1) (zd (i := .iload_n 1) (n := 1) (by decide +kernel)) rfl <|
    z_table (v := 2147483783) (df := 101) (len := 31) (x := 135) (dflt := 100) (lo := 135) (hi := 138) (offs := #[31, 48, 65, 82]) (tgts := [32, 49, 66, 83]) (zd (i := .tableswitch (100) (135) (138) #[31, 48, 65, 82]) (n := 31) (by decide +kernel)) (by decide +kernel) rfl rfl (by decide +kernel) (by decide +kernel) (by decide +kernel) ⟨(zj (hj 1) (by decide +kernel)), (zj (hj 2) (by decide +kernel)), (zj (hj 3) (by decide +kernel)), (zj (hj 4) (by decide +kernel)), trivial⟩ (zj (hj 5) (by decide +kernel))
noncomputable def b_X1_takeSetting_1 : zBl := fun jp K => oAld 0 <| oGetR 1 1 <| oAld 0 <| oInt 2147483649 <| oInt 2147483747 <| oCv 1 2 gs_X1_takeInt <| oPutI 0 8 <| jp 6
theorem s_X1_takeSetting_1 (d : Nat) : zPb l G gh (d + 3) n_X1_takeSetting p_X1_takeSetting 32 b_X1_takeSetting_1 := fun K jp hj =>
    z_aload_n (n := 0) (i := 0) (zd (i := .aload_n 0) (n := 1) (by decide +kernel)) rfl <|
    z_getR (ci := 1) (j := 1) (idx := 21) (zd (i := .getfield 21) (n := 3) (by decide +kernel)) (by decide +kernel) (by decide +kernel) rfl g336 <|
    z_aload_n (n := 0) (i := 0) (zd (i := .aload_n 0) (n := 1) (by decide +kernel)) rfl <|
    z_iconst (n := 1) (zd (i := .iconst (1)) (n := 1) (by decide +kernel)) (by decide +kernel) <|
    z_bipush (n := 99) (zd (i := .bipush (99)) (n := 2) (by decide +kernel)) (by decide +kernel) <|
    z_callV (idx := 96) (ci := 1) (N := n_X1_takeInt) (zd (i := .invokevirtual 96) (n := 3) (by decide +kernel)) to_X1_takeInt g642 g644 g10 (by decide +kernel) rfl rfl rfl (cs_X1_takeInt (l := l) (G := G) (gh := gh) (d)) <|
    z_putI (ci := 0) (j := 8) (idx := 104) (zd (i := .putfield 104) (n := 3) (by decide +kernel)) (by decide +kernel) (by decide +kernel) rfl g294 (Or.inl rfl) <|
    z_goto (off := 60) (tgt := 106) (zd (i := .goto (60)) (n := 3) (by decide +kernel)) (by decide +kernel) (zj (hj 6) (by decide +kernel))
noncomputable def b_X1_takeSetting_2 : zBl := fun jp K => oAld 0 <| oGetR 1 1 <| oAld 0 <| oInt 2147483648 <| oInt 2147483748 <| oCv 1 2 gs_X1_takeInt <| oPutI 0 9 <| jp 6
theorem s_X1_takeSetting_2 (d : Nat) : zPb l G gh (d + 3) n_X1_takeSetting p_X1_takeSetting 49 b_X1_takeSetting_2 := fun K jp hj =>
    z_aload_n (n := 0) (i := 0) (zd (i := .aload_n 0) (n := 1) (by decide +kernel)) rfl <|
    z_getR (ci := 1) (j := 1) (idx := 21) (zd (i := .getfield 21) (n := 3) (by decide +kernel)) (by decide +kernel) (by decide +kernel) rfl g336 <|
    z_aload_n (n := 0) (i := 0) (zd (i := .aload_n 0) (n := 1) (by decide +kernel)) rfl <|
    z_iconst (n := 0) (zd (i := .iconst (0)) (n := 1) (by decide +kernel)) (by decide +kernel) <|
    z_bipush (n := 100) (zd (i := .bipush (100)) (n := 2) (by decide +kernel)) (by decide +kernel) <|
    z_callV (idx := 96) (ci := 1) (N := n_X1_takeInt) (zd (i := .invokevirtual 96) (n := 3) (by decide +kernel)) to_X1_takeInt g642 g644 g10 (by decide +kernel) rfl rfl rfl (cs_X1_takeInt (l := l) (G := G) (gh := gh) (d)) <|
    z_putI (ci := 0) (j := 9) (idx := 107) (zd (i := .putfield 107) (n := 3) (by decide +kernel)) (by decide +kernel) (by decide +kernel) rfl g296 (Or.inl rfl) <|
    z_goto (off := 43) (tgt := 106) (zd (i := .goto (43)) (n := 3) (by decide +kernel)) (by decide +kernel) (zj (hj 6) (by decide +kernel))
noncomputable def b_X1_takeSetting_3 : zBl := fun jp K => oAld 0 <| oGetR 1 1 <| oAld 0 <| oInt 2147483648 <| oInt 2147483671 <| oCv 1 2 gs_X1_takeInt <| oPutI 0 10 <| jp 6
theorem s_X1_takeSetting_3 (d : Nat) : zPb l G gh (d + 3) n_X1_takeSetting p_X1_takeSetting 66 b_X1_takeSetting_3 := fun K jp hj =>
    z_aload_n (n := 0) (i := 0) (zd (i := .aload_n 0) (n := 1) (by decide +kernel)) rfl <|
    z_getR (ci := 1) (j := 1) (idx := 21) (zd (i := .getfield 21) (n := 3) (by decide +kernel)) (by decide +kernel) (by decide +kernel) rfl g336 <|
    z_aload_n (n := 0) (i := 0) (zd (i := .aload_n 0) (n := 1) (by decide +kernel)) rfl <|
    z_iconst (n := 0) (zd (i := .iconst (0)) (n := 1) (by decide +kernel)) (by decide +kernel) <|
    z_bipush (n := 23) (zd (i := .bipush (23)) (n := 2) (by decide +kernel)) (by decide +kernel) <|
    z_callV (idx := 96) (ci := 1) (N := n_X1_takeInt) (zd (i := .invokevirtual 96) (n := 3) (by decide +kernel)) to_X1_takeInt g642 g644 g10 (by decide +kernel) rfl rfl rfl (cs_X1_takeInt (l := l) (G := G) (gh := gh) (d)) <|
    z_putI (ci := 0) (j := 10) (idx := 110) (zd (i := .putfield 110) (n := 3) (by decide +kernel)) (by decide +kernel) (by decide +kernel) rfl g300 (Or.inl rfl) <|
    z_goto (off := 26) (tgt := 106) (zd (i := .goto (26)) (n := 3) (by decide +kernel)) (by decide +kernel) (zj (hj 6) (by decide +kernel))
noncomputable def b_X1_takeSetting_4 : zBl := fun jp K => oAld 0 <| oGetR 1 1 <| oAld 0 <| oInt 2147483648 <| oInt 2147493647 <| oCv 1 2 gs_X1_takeInt <| oPutI 0 11 <| jp 6
theorem s_X1_takeSetting_4 (d : Nat) : zPb l G gh (d + 3) n_X1_takeSetting p_X1_takeSetting 83 b_X1_takeSetting_4 := fun K jp hj =>
    z_aload_n (n := 0) (i := 0) (zd (i := .aload_n 0) (n := 1) (by decide +kernel)) rfl <|
    z_getR (ci := 1) (j := 1) (idx := 21) (zd (i := .getfield 21) (n := 3) (by decide +kernel)) (by decide +kernel) (by decide +kernel) rfl g336 <|
    z_aload_n (n := 0) (i := 0) (zd (i := .aload_n 0) (n := 1) (by decide +kernel)) rfl <|
    z_iconst (n := 0) (zd (i := .iconst (0)) (n := 1) (by decide +kernel)) (by decide +kernel) <|
    z_sipush (n := 9999) (zd (i := .sipush (9999)) (n := 3) (by decide +kernel)) (by decide +kernel) <|
    z_callV (idx := 96) (ci := 1) (N := n_X1_takeInt) (zd (i := .invokevirtual 96) (n := 3) (by decide +kernel)) to_X1_takeInt g642 g644 g10 (by decide +kernel) rfl rfl rfl (cs_X1_takeInt (l := l) (G := G) (gh := gh) (d)) <|
    z_putI (ci := 0) (j := 11) (idx := 113) (zd (i := .putfield 113) (n := 3) (by decide +kernel)) (by decide +kernel) (by decide +kernel) rfl g302 (Or.inl rfl) <|
    z_goto (off := 8) (tgt := 106) (zd (i := .goto (8)) (n := 3) (by decide +kernel)) (by decide +kernel) (zj (hj 6) (by decide +kernel))
noncomputable def b_X1_takeSetting_5 : zBl := fun jp K => oAld 0 <| oInt 2147483649 <| oCv 1 1 f_X1_fail <| jp 6
theorem s_X1_takeSetting_5 (d : Nat) : zPb l G gh (d + 3) n_X1_takeSetting p_X1_takeSetting 101 b_X1_takeSetting_5 := fun K jp hj =>
    z_aload_n (n := 0) (i := 0) (zd (i := .aload_n 0) (n := 1) (by decide +kernel)) rfl <|
    z_iconst (n := 1) (zd (i := .iconst (1)) (n := 1) (by decide +kernel)) (by decide +kernel) <|
    z_callV (idx := 67) (ci := 1) (N := n_X1_fail) (zd (i := .invokevirtual 67) (n := 3) (by decide +kernel)) to_X1_fail g622 g624 g6 (by decide +kernel) rfl rfl rfl (c_X1_fail (l := l) (G := G) (gh := gh) (d + 1)) <|
    (zj (hj 6) (by decide +kernel))
noncomputable def b_X1_takeSetting_6 : zBl := fun jp K => oVret K
theorem s_X1_takeSetting_6 (d : Nat) : zPb l G gh (d + 3) n_X1_takeSetting p_X1_takeSetting 106 b_X1_takeSetting_6 := fun K jp hj =>
    z_vret (zd (i := .return_) (n := 1) (by decide +kernel)) rfl
noncomputable def t_X1_takeSetting : List zBl := [b_X1_takeSetting_0, b_X1_takeSetting_1, b_X1_takeSetting_2, b_X1_takeSetting_3, b_X1_takeSetting_4, b_X1_takeSetting_5, b_X1_takeSetting_6]
theorem tt_X1_takeSetting (d : Nat) : zT (zPb l G gh (d + 3) n_X1_takeSetting p_X1_takeSetting) t_X1_takeSetting p_X1_takeSetting := ⟨s_X1_takeSetting_0 d, s_X1_takeSetting_1 d, s_X1_takeSetting_2 d, s_X1_takeSetting_3 d, s_X1_takeSetting_4 d, s_X1_takeSetting_5 d, s_X1_takeSetting_6 d, trivial⟩
def q_X1_takeSetting_0 : List (Nat × Nat) := [(3, zk1), (4, zk0), (6, zk2), (7, zk2), (8, 143923), (9, zk6)]
noncomputable def al_X1_takeSetting_0 : zAq := [(none, [(3, zk3), (4, zk0), (6, zk2), (7, zk2), (8, 143923), (9, zk7)])]
noncomputable def fm_X1_takeSetting_0 : List zFm := [(0, [], (fun vs => [.inr (.ref 3), .inl 8589934591]), (fun vs => zP q_X1_takeSetting_0), (fun vs => Nat.sub (Nat.add 0 0) 0))]
def bf_X1_takeSetting_0 : List Nat := []
theorem r_X1_takeSetting_0_0 : zbox [] (fun vs => zFrun (zpost (zAlq al_X1_takeSetting_0)) 1000 t_X1_takeSetting fm_X1_takeSetting_0 bf_X1_takeSetting_0 (0, vs)) = true := by decide +kernel
set_option maxRecDepth 100000 in
theorem x_X1_takeSetting_0 (d : Nat) : zS l G gh (d + 3) (zpost (zAlq al_X1_takeSetting_0)) n_X1_takeSetting (zn 0 p_X1_takeSetting 0) (zwc (0, [.inr (.ref 3), .inl 8589934591], zP q_X1_takeSetting_0) 0) := zentry (tt_X1_takeSetting d) fm_X1_takeSetting_0 bf_X1_takeSetting_0 1000 (by decide +kernel) rfl ⟨Nat.zero_lt_succ _, trivial⟩ (fun f hf => match f, hf with
  | 0, _ => fun vs hv => (zbox_t r_X1_takeSetting_0_0) vs hv
  | f + 1, h => absurd (show f + 1 < 1 from h) (Nat.not_lt.mpr (Nat.le_add_left 1 f)))
noncomputable def gs_X1_takeSetting_0 : zMt := zgq false [] 2 [.inr (.ref 3), .inl 8589934591] q_X1_takeSetting_0 al_X1_takeSetting_0
set_option maxRecDepth 100000 in
theorem cs_X1_takeSetting_0 (d : Nat) : zC l G gh (d + 3) n_X1_takeSetting gs_X1_takeSetting_0 := zgq_ok0 (pcs := p_X1_takeSetting) (by decide) rfl rfl (fun a ha => by simp only [al_X1_takeSetting_0, List.mem_cons, List.not_mem_nil, or_false] at ha; rcases ha with rfl <;> decide +kernel) (fun gh => x_X1_takeSetting_0 d) (by decide +kernel)
def q_X1_takeSetting_1 : List (Nat × Nat) := [(3, zk4), (4, zk0), (6, zk2), (7, zk2), (8, 143923), (259, zk8)]
noncomputable def al_X1_takeSetting_1 : zAq := [(none, [(3, zk5), (4, zk0), (6, zk2), (7, zk2), (8, 143923), (259, zk9)])]
noncomputable def fm_X1_takeSetting_1 : List zFm := [(0, [], (fun vs => [.inr (.ref 3), .inl 8589934591]), (fun vs => zP q_X1_takeSetting_1), (fun vs => Nat.sub (Nat.add 0 0) 0))]
def bf_X1_takeSetting_1 : List Nat := []
theorem r_X1_takeSetting_1_0 : zbox [] (fun vs => zFrun (zpost (zAlq al_X1_takeSetting_1)) 1000 t_X1_takeSetting fm_X1_takeSetting_1 bf_X1_takeSetting_1 (0, vs)) = true := by decide +kernel
set_option maxRecDepth 100000 in
theorem x_X1_takeSetting_1 (d : Nat) : zS l G gh (d + 3) (zpost (zAlq al_X1_takeSetting_1)) n_X1_takeSetting (zn 0 p_X1_takeSetting 0) (zwc (0, [.inr (.ref 3), .inl 8589934591], zP q_X1_takeSetting_1) 0) := zentry (tt_X1_takeSetting d) fm_X1_takeSetting_1 bf_X1_takeSetting_1 1000 (by decide +kernel) rfl ⟨Nat.zero_lt_succ _, trivial⟩ (fun f hf => match f, hf with
  | 0, _ => fun vs hv => (zbox_t r_X1_takeSetting_1_0) vs hv
  | f + 1, h => absurd (show f + 1 < 1 from h) (Nat.not_lt.mpr (Nat.le_add_left 1 f)))
noncomputable def gs_X1_takeSetting_1 : zMt := zgq false [] 2 [.inr (.ref 3), .inl 8589934591] q_X1_takeSetting_1 al_X1_takeSetting_1
set_option maxRecDepth 100000 in
theorem cs_X1_takeSetting_1 (d : Nat) : zC l G gh (d + 3) n_X1_takeSetting gs_X1_takeSetting_1 := zgq_ok0 (pcs := p_X1_takeSetting) (by decide) rfl rfl (fun a ha => by simp only [al_X1_takeSetting_1, List.mem_cons, List.not_mem_nil, or_false] at ha; rcases ha with rfl <;> decide +kernel) (fun gh => x_X1_takeSetting_1 d) (by decide +kernel)
noncomputable def gs_X1_takeSetting : zMt := (zor gs_X1_takeSetting_0 gs_X1_takeSetting_1)
theorem cs_X1_takeSetting (d : Nat) : zC l G gh (d + 3) n_X1_takeSetting gs_X1_takeSetting := (zor_ok (cs_X1_takeSetting_0 d) (cs_X1_takeSetting_1 d))
def n_X4_begin : qMn := (yX4_begin, cX4_begin, 3, none, 0, 0)
theorem to_X4_begin : qTo n_X4_begin 1 := ⟨g687, g107, ⟨by decide, by decide, by decide +kernel⟩, by decide⟩
def p_X4_begin : List Nat := [0, 10, 16, 29, 38, 39, 53, 62, 63, 84]
noncomputable def b_X4_begin_0 : zBl := fun jp K => oAld 0 <| oAld 1 <| oGetI 0 10 <| oPutI 4 0 <| oInt 2147483648 <| oIst 2 <| jp 1
theorem s_X4_begin_0 (d : Nat) : zPb l G gh (d + 3) n_X4_begin p_X4_begin 0 b_X4_begin_0 := fun K jp hj =>
    z_aload_n (n := 0) (i := 0) (zd (i := .aload_n 0) (n := 1) (by decide +kernel)) rfl <|
    z_aload_n (n := 1) (i := 1) (zd (i := .aload_n 1) (n := 1) (by decide +kernel)) rfl <|
    z_getI (ci := 0) (j := 10) (idx := 34) (zd (i := .getfield 34) (n := 3) (by decide +kernel)) (by decide +kernel) (by decide +kernel) rfl g299 <|
    z_putI (ci := 4) (j := 0) (idx := 9) (zd (i := .putfield 9) (n := 3) (by decide +kernel)) (by decide +kernel) (by decide +kernel) rfl g367 (Or.inl rfl) <|
    z_iconst (n := 0) (zd (i := .iconst (0)) (n := 1) (by decide +kernel)) (by decide +kernel) <|
    z_istore_n (n := 2) (i := 2) (zd (i := .istore_n 2) (n := 1) (by decide +kernel)) rfl (by decide +kernel) <|
    (zj (hj 1) (by decide +kernel))
noncomputable def b_X4_begin_1 : zBl := fun jp K => oNLC 2 2147483654 zgeN zltN zn1_ge zn1_lt (jp 9) (jp 2)
theorem s_X4_begin_1 (d : Nat) : zPb l G gh (d + 3) n_X4_begin p_X4_begin 10 b_X4_begin_1 := fun K jp hj =>
    z_nLC_ge (i := 2) (c0 := 2147483654) (a1 := 1) (a2 := 2) (off := 71) (tgt := 84) (zLd_n (n := 2) (i := 2) (zd (i := .iload_n 2) (n := 1) (by decide +kernel)) rfl) (zCn_b (n := 6) (zd (i := .bipush (6)) (n := 2) (by decide +kernel)) (by decide +kernel)) (zd (i := .if_icmp .ge (71)) (n := 3) (by decide +kernel)) (by decide +kernel) (zj (hj 9) (by decide +kernel)) (zj (hj 2) (by decide +kernel))
noncomputable def b_X4_begin_2 : zBl := fun jp K => oAld 0 <| oGetR 4 1 <| oIld 2 <| oNLF 2 1 0 5 zgeN zltN zn1_ge zn1_lt (jp 4) (jp 3)
theorem s_X4_begin_2 (d : Nat) : zPb l G gh (d + 3) n_X4_begin p_X4_begin 16 b_X4_begin_2 := fun K jp hj =>
    z_aload_n (n := 0) (i := 0) (zd (i := .aload_n 0) (n := 1) (by decide +kernel)) rfl <|
    z_getR (ci := 4) (j := 1) (idx := 15) (zd (i := .getfield 15) (n := 3) (by decide +kernel)) (by decide +kernel) (by decide +kernel) rfl g370 <|
    z_iload_n (n := 2) (i := 2) (zd (i := .iload_n 2) (n := 1) (by decide +kernel)) rfl <|
    z_nLF_ge (i := 2) (r := 1) (ci := 0) (j := 5) (a1 := 1) (a2 := 4) (off := 12) (tgt := 38) (zLd_n (n := 2) (i := 2) (zd (i := .iload_n 2) (n := 1) (by decide +kernel)) rfl) (zFd_n (n := 1) (r := 1) (ci := 0) (j := 5) (idx := 39) (zd (i := .aload_n 1) (n := 1) (by decide +kernel)) rfl (zd (i := .getfield 39) (n := 3) (by decide +kernel)) (by decide +kernel) (by decide +kernel) rfl g286) (by decide +kernel) rfl (zd (i := .if_icmp .ge (12)) (n := 3) (by decide +kernel)) (by decide +kernel) (zj (hj 4) (by decide +kernel)) (zj (hj 3) (by decide +kernel))
noncomputable def b_X4_begin_3 : zBl := fun jp K => oAld 1 <| oGetR 0 6 <| oIld 2 <| oXald 10 <| jp 5
theorem s_X4_begin_3 (d : Nat) : zPb l G gh (d + 3) n_X4_begin p_X4_begin 29 b_X4_begin_3 := fun K jp hj =>
    z_aload_n (n := 1) (i := 1) (zd (i := .aload_n 1) (n := 1) (by decide +kernel)) rfl <|
    z_getR (ci := 0) (j := 6) (idx := 42) (zd (i := .getfield 42) (n := 3) (by decide +kernel)) (by decide +kernel) (by decide +kernel) rfl g290 <|
    z_iload_n (n := 2) (i := 2) (zd (i := .iload_n 2) (n := 1) (by decide +kernel)) rfl <|
    z_iald (zd (i := .iaload) (n := 1) (by decide +kernel)) <|
    z_goto (off := 4) (tgt := 39) (zd (i := .goto (4)) (n := 3) (by decide +kernel)) (by decide +kernel) (zj (hj 5) (by decide +kernel))
noncomputable def b_X4_begin_4 : zBl := fun jp K => oInt 2147483648 <| jp 5
theorem s_X4_begin_4 (d : Nat) : zPb l G gh (d + 3) n_X4_begin p_X4_begin 38 b_X4_begin_4 := fun K jp hj =>
    z_iconst (n := 0) (zd (i := .iconst (0)) (n := 1) (by decide +kernel)) (by decide +kernel) <|
    (zj (hj 5) (by decide +kernel))
noncomputable def b_X4_begin_5 : zBl := fun jp K => oXast 10 zid <| oAld 0 <| oGetR 4 2 <| oIld 2 <| oNLF 2 1 0 5 zgeN zltN zn1_ge zn1_lt (jp 7) (jp 6)
theorem s_X4_begin_5 (d : Nat) : zPb l G gh (d + 3) n_X4_begin p_X4_begin 39 b_X4_begin_5 := fun K jp hj =>
    z_iast (zd (i := .iastore) (n := 1) (by decide +kernel)) <|
    z_aload_n (n := 0) (i := 0) (zd (i := .aload_n 0) (n := 1) (by decide +kernel)) rfl <|
    z_getR (ci := 4) (j := 2) (idx := 19) (zd (i := .getfield 19) (n := 3) (by decide +kernel)) (by decide +kernel) (by decide +kernel) rfl g373 <|
    z_iload_n (n := 2) (i := 2) (zd (i := .iload_n 2) (n := 1) (by decide +kernel)) rfl <|
    z_nLF_ge (i := 2) (r := 1) (ci := 0) (j := 5) (a1 := 1) (a2 := 4) (off := 12) (tgt := 62) (zLd_n (n := 2) (i := 2) (zd (i := .iload_n 2) (n := 1) (by decide +kernel)) rfl) (zFd_n (n := 1) (r := 1) (ci := 0) (j := 5) (idx := 39) (zd (i := .aload_n 1) (n := 1) (by decide +kernel)) rfl (zd (i := .getfield 39) (n := 3) (by decide +kernel)) (by decide +kernel) (by decide +kernel) rfl g286) (by decide +kernel) rfl (zd (i := .if_icmp .ge (12)) (n := 3) (by decide +kernel)) (by decide +kernel) (zj (hj 7) (by decide +kernel)) (zj (hj 6) (by decide +kernel))
noncomputable def b_X4_begin_6 : zBl := fun jp K => oAld 1 <| oGetR 0 7 <| oIld 2 <| oXald 10 <| jp 8
theorem s_X4_begin_6 (d : Nat) : zPb l G gh (d + 3) n_X4_begin p_X4_begin 53 b_X4_begin_6 := fun K jp hj =>
    z_aload_n (n := 1) (i := 1) (zd (i := .aload_n 1) (n := 1) (by decide +kernel)) rfl <|
    z_getR (ci := 0) (j := 7) (idx := 45) (zd (i := .getfield 45) (n := 3) (by decide +kernel)) (by decide +kernel) (by decide +kernel) rfl g292 <|
    z_iload_n (n := 2) (i := 2) (zd (i := .iload_n 2) (n := 1) (by decide +kernel)) rfl <|
    z_iald (zd (i := .iaload) (n := 1) (by decide +kernel)) <|
    z_goto (off := 4) (tgt := 63) (zd (i := .goto (4)) (n := 3) (by decide +kernel)) (by decide +kernel) (zj (hj 8) (by decide +kernel))
noncomputable def b_X4_begin_7 : zBl := fun jp K => oInt 2147483648 <| jp 8
theorem s_X4_begin_7 (d : Nat) : zPb l G gh (d + 3) n_X4_begin p_X4_begin 62 b_X4_begin_7 := fun K jp hj =>
    z_iconst (n := 0) (zd (i := .iconst (0)) (n := 1) (by decide +kernel)) (by decide +kernel) <|
    (zj (hj 8) (by decide +kernel))
noncomputable def b_X4_begin_8 : zBl := fun jp K => oXast 10 zid <| oAld 0 <| oGetR 4 3 <| oIld 2 <| oInt 2147483648 <| oXast 10 zid <| oAld 0 <| oGetR 4 4 <| oIld 2 <| oInt 2147483648 <| oXast 10 zid <| oInc 2 2147483649 <| jp 1
theorem s_X4_begin_8 (d : Nat) : zPb l G gh (d + 3) n_X4_begin p_X4_begin 63 b_X4_begin_8 := fun K jp hj =>
    z_iast (zd (i := .iastore) (n := 1) (by decide +kernel)) <|
    z_aload_n (n := 0) (i := 0) (zd (i := .aload_n 0) (n := 1) (by decide +kernel)) rfl <|
    z_getR (ci := 4) (j := 3) (idx := 22) (zd (i := .getfield 22) (n := 3) (by decide +kernel)) (by decide +kernel) (by decide +kernel) rfl g376 <|
    z_iload_n (n := 2) (i := 2) (zd (i := .iload_n 2) (n := 1) (by decide +kernel)) rfl <|
    z_iconst (n := 0) (zd (i := .iconst (0)) (n := 1) (by decide +kernel)) (by decide +kernel) <|
    z_iast (zd (i := .iastore) (n := 1) (by decide +kernel)) <|
    z_aload_n (n := 0) (i := 0) (zd (i := .aload_n 0) (n := 1) (by decide +kernel)) rfl <|
    z_getR (ci := 4) (j := 4) (idx := 25) (zd (i := .getfield 25) (n := 3) (by decide +kernel)) (by decide +kernel) (by decide +kernel) rfl g379 <|
    z_iload_n (n := 2) (i := 2) (zd (i := .iload_n 2) (n := 1) (by decide +kernel)) rfl <|
    z_iconst (n := 0) (zd (i := .iconst (0)) (n := 1) (by decide +kernel)) (by decide +kernel) <|
    z_iast (zd (i := .iastore) (n := 1) (by decide +kernel)) <|
    z_iinc (i := 2) (n := 1) (zd (i := .iinc 2 (1)) (n := 3) (by decide +kernel)) (by decide +kernel) (by decide +kernel) <|
    z_goto (off := -71) (tgt := 10) (zd (i := .goto (-71)) (n := 3) (by decide +kernel)) (by decide +kernel) (zj (hj 1) (by decide +kernel))
noncomputable def b_X4_begin_9 : zBl := fun jp K => oAld 0 <| oInt 2147483647 <| oCv 4 1 gs_X4_keepOnly <| oVret K
theorem s_X4_begin_9 (d : Nat) : zPb l G gh (d + 3) n_X4_begin p_X4_begin 84 b_X4_begin_9 := fun K jp hj =>
    z_aload_n (n := 0) (i := 0) (zd (i := .aload_n 0) (n := 1) (by decide +kernel)) rfl <|
    z_iconst (n := -1) (zd (i := .iconst (-1)) (n := 1) (by decide +kernel)) (by decide +kernel) <|
    z_callV (idx := 46) (ci := 4) (N := n_X4_keepOnly) (zd (i := .invokevirtual 46) (n := 3) (by decide +kernel)) to_X4_keepOnly g688 g689 g690 (by decide +kernel) rfl rfl rfl (cs_X4_keepOnly (l := l) (G := G) (gh := gh) (d)) <|
    z_vret (zd (i := .return_) (n := 1) (by decide +kernel)) rfl
noncomputable def t_X4_begin : List zBl := [b_X4_begin_0, b_X4_begin_1, b_X4_begin_2, b_X4_begin_3, b_X4_begin_4, b_X4_begin_5, b_X4_begin_6, b_X4_begin_7, b_X4_begin_8, b_X4_begin_9]
theorem tt_X4_begin (d : Nat) : zT (zPb l G gh (d + 3) n_X4_begin p_X4_begin) t_X4_begin p_X4_begin := ⟨s_X4_begin_0 d, s_X4_begin_1 d, s_X4_begin_2 d, s_X4_begin_3 d, s_X4_begin_4 d, s_X4_begin_5 d, s_X4_begin_6 d, s_X4_begin_7 d, s_X4_begin_8 d, s_X4_begin_9 d, trivial⟩
def q_X4_begin_0 : List (Nat × Nat) := [(9, zk6), (13, zk10), (14, zk10), (21, zk22), (22, zk10), (23, zk10), (24, zk10), (25, zk10), (26, zk23), (27, zk23)]
noncomputable def al_X4_begin_0 : zAq := [(none, [(9, zk6), (13, zk10), (14, zk10), (21, zk98), (22, zk11), (23, zk11), (24, zk11), (25, zk11), (26, zk31), (27, zk31)])]
def mq_X4_begin_0_1 : List (Nat × Nat) := [(9, zk6), (13, zk10), (14, zk10), (21, zk98), (22, zk11), (23, zk11), (24, zk11), (25, zk11), (26, zk23), (27, zk23)]
noncomputable def fm_X4_begin_0 : List zFm := [(0, [], (fun vs => [.inr (.ref 21), .inr (.ref 9)]), (fun vs => zP q_X4_begin_0), (fun vs => Nat.sub (Nat.add 7 0) 0)),
  (1, [(2, 2147483648, 2147483654)], (fun vs => [.inr (.ref 21), .inr (.ref 9), .inl (zn 0 vs 0)]), (fun vs => zP mq_X4_begin_0_1), (fun vs => Nat.sub (Nat.add 2147483654 0) (Nat.add 0 (Nat.mul 1 (zn 0 vs 0)))))]
def bf_X4_begin_0 : List Nat := [0, 2]
theorem r_X4_begin_0_0 : zbox [] (fun vs => zFrun (zpost (zAlq al_X4_begin_0)) 1000 t_X4_begin fm_X4_begin_0 bf_X4_begin_0 (0, vs)) = true := by decide +kernel
theorem r_X4_begin_0_1 : zbox [(2, 2147483648, 2147483654)] (fun vs => zFrun (zpost (zAlq al_X4_begin_0)) 1000 t_X4_begin fm_X4_begin_0 bf_X4_begin_0 (1, vs)) = true := by decide +kernel
set_option maxRecDepth 100000 in
theorem x_X4_begin_0 (d : Nat) : zS l G gh (d + 3) (zpost (zAlq al_X4_begin_0)) n_X4_begin (zn 0 p_X4_begin 0) (zwc (0, [.inr (.ref 21), .inr (.ref 9)], zP q_X4_begin_0) 0) := zentry (tt_X4_begin d) fm_X4_begin_0 bf_X4_begin_0 1000 (by decide +kernel) rfl ⟨Nat.zero_lt_succ _, trivial⟩ (fun f hf => match f, hf with
  | 0, _ => fun vs hv => (zbox_t r_X4_begin_0_0) vs hv
  | 1, _ => fun vs hv => (zbox_t r_X4_begin_0_1) vs hv
  | f + 2, h => absurd (show f + 2 < 2 from h) (Nat.not_lt.mpr (Nat.le_add_left 2 f)))
noncomputable def gs_X4_begin_0 : zMt := zgq false [] 3 [.inr (.ref 21), .inr (.ref 9)] q_X4_begin_0 al_X4_begin_0
set_option maxRecDepth 100000 in
theorem cs_X4_begin_0 (d : Nat) : zC l G gh (d + 3) n_X4_begin gs_X4_begin_0 := zgq_ok0 (pcs := p_X4_begin) (by decide) rfl rfl (fun a ha => by simp only [al_X4_begin_0, List.mem_cons, List.not_mem_nil, or_false] at ha; rcases ha with rfl <;> decide +kernel) (fun gh => x_X4_begin_0 d) (by decide +kernel)
def q_X4_begin_1 : List (Nat × Nat) := [(21, zk22), (22, zk10), (23, zk10), (24, zk10), (25, zk10), (26, zk23), (27, zk23), (259, zk8), (263, zk10), (264, zk10)]
noncomputable def al_X4_begin_1 : zAq := [(none, [(21, zk98), (22, zk11), (23, zk11), (24, zk11), (25, zk11), (26, zk31), (27, zk31), (259, zk8), (263, zk10), (264, zk10)])]
def mq_X4_begin_1_1 : List (Nat × Nat) := [(21, zk98), (22, zk11), (23, zk11), (24, zk11), (25, zk11), (26, zk23), (27, zk23), (259, zk8), (263, zk10), (264, zk10)]
noncomputable def fm_X4_begin_1 : List zFm := [(0, [], (fun vs => [.inr (.ref 21), .inr (.ref 259)]), (fun vs => zP q_X4_begin_1), (fun vs => Nat.sub (Nat.add 7 0) 0)),
  (1, [(2, 2147483648, 2147483654)], (fun vs => [.inr (.ref 21), .inr (.ref 259), .inl (zn 0 vs 0)]), (fun vs => zP mq_X4_begin_1_1), (fun vs => Nat.sub (Nat.add 2147483654 0) (Nat.add 0 (Nat.mul 1 (zn 0 vs 0)))))]
def bf_X4_begin_1 : List Nat := [0, 2]
theorem r_X4_begin_1_0 : zbox [] (fun vs => zFrun (zpost (zAlq al_X4_begin_1)) 1000 t_X4_begin fm_X4_begin_1 bf_X4_begin_1 (0, vs)) = true := by decide +kernel
theorem r_X4_begin_1_1 : zbox [(2, 2147483648, 2147483654)] (fun vs => zFrun (zpost (zAlq al_X4_begin_1)) 1000 t_X4_begin fm_X4_begin_1 bf_X4_begin_1 (1, vs)) = true := by decide +kernel
set_option maxRecDepth 100000 in
theorem x_X4_begin_1 (d : Nat) : zS l G gh (d + 3) (zpost (zAlq al_X4_begin_1)) n_X4_begin (zn 0 p_X4_begin 0) (zwc (0, [.inr (.ref 21), .inr (.ref 259)], zP q_X4_begin_1) 0) := zentry (tt_X4_begin d) fm_X4_begin_1 bf_X4_begin_1 1000 (by decide +kernel) rfl ⟨Nat.zero_lt_succ _, trivial⟩ (fun f hf => match f, hf with
  | 0, _ => fun vs hv => (zbox_t r_X4_begin_1_0) vs hv
  | 1, _ => fun vs hv => (zbox_t r_X4_begin_1_1) vs hv
  | f + 2, h => absurd (show f + 2 < 2 from h) (Nat.not_lt.mpr (Nat.le_add_left 2 f)))
noncomputable def gs_X4_begin_1 : zMt := zgq false [] 3 [.inr (.ref 21), .inr (.ref 259)] q_X4_begin_1 al_X4_begin_1
set_option maxRecDepth 100000 in
theorem cs_X4_begin_1 (d : Nat) : zC l G gh (d + 3) n_X4_begin gs_X4_begin_1 := zgq_ok0 (pcs := p_X4_begin) (by decide) rfl rfl (fun a ha => by simp only [al_X4_begin_1, List.mem_cons, List.not_mem_nil, or_false] at ha; rcases ha with rfl <;> decide +kernel) (fun gh => x_X4_begin_1 d) (by decide +kernel)
noncomputable def gs_X4_begin : zMt := (zor gs_X4_begin_0 gs_X4_begin_1)
theorem cs_X4_begin (d : Nat) : zC l G gh (d + 3) n_X4_begin gs_X4_begin := (zor_ok (cs_X4_begin_0 d) (cs_X4_begin_1 d))
def n_X2_heat : qMn := (yX2_heat, cX2_heat, 2, (some Jvm.ClassFile.FieldType.int), 0, 0)
theorem to_X2_heat : qTo n_X2_heat 1 := ⟨g723, g106, ⟨by decide, by decide, by decide +kernel⟩, by decide⟩
def p_X2_heat : List Nat := [0]
noncomputable def b_X2_heat_0 : zBl := fun jp K => oAld 0 <| oIld 1 <| oCv 2 1 gs_X2_clearVars <| oInt 2147483648 <| oAld 0 <| oInt 2147483648 <| oCv 2 1 gs_X2_reckon <| oInt 2147483747 <| oCs 3 f_X8_within <| oIret K
theorem s_X2_heat_0 (d : Nat) : zPb l G gh (d + 3) n_X2_heat p_X2_heat 0 b_X2_heat_0 := fun K jp hj =>
    z_aload_n (n := 0) (i := 0) (zd (i := .aload_n 0) (n := 1) (by decide +kernel)) rfl <|
    z_iload_n (n := 1) (i := 1) (zd (i := .iload_n 1) (n := 1) (by decide +kernel)) rfl <|
    z_callV (idx := 43) (ci := 2) (N := n_X2_clearVars) (zd (i := .invokevirtual 43) (n := 3) (by decide +kernel)) to_X2_clearVars g724 g726 g19 (by decide +kernel) rfl rfl rfl (cs_X2_clearVars (l := l) (G := G) (gh := gh) (d + 1)) <|
    z_iconst (n := 0) (zd (i := .iconst (0)) (n := 1) (by decide +kernel)) (by decide +kernel) <|
    z_aload_n (n := 0) (i := 0) (zd (i := .aload_n 0) (n := 1) (by decide +kernel)) rfl <|
    z_iconst (n := 0) (zd (i := .iconst (0)) (n := 1) (by decide +kernel)) (by decide +kernel) <|
    z_callV (idx := 46) (ci := 2) (N := n_X2_reckon) (zd (i := .invokevirtual 46) (n := 3) (by decide +kernel)) to_X2_reckon g728 g730 g20 (by decide +kernel) rfl rfl rfl (cs_X2_reckon (l := l) (G := G) (gh := gh) (d)) <|
    z_bipush (n := 99) (zd (i := .bipush (99)) (n := 2) (by decide +kernel)) (by decide +kernel) <|
    z_callSN (idx := 50) (N := n_X8_within) (host := "MirageLoans") (zd (i := .invokestatic 50) (n := 3) (by decide +kernel)) to_X8_within (by decide +kernel) g741 rfl rfl (c_X8_within (l := l) (G := G) (gh := gh) (d + 1)) <|
    z_iret (zd (i := .ireturn) (n := 1) (by decide +kernel)) rfl
noncomputable def t_X2_heat : List zBl := [b_X2_heat_0]
theorem tt_X2_heat (d : Nat) : zT (zPb l G gh (d + 3) n_X2_heat p_X2_heat) t_X2_heat p_X2_heat := ⟨s_X2_heat_0 d, trivial⟩
noncomputable def f_X2_heat : zMt := zmet 2 t_X2_heat
theorem c_X2_heat (d : Nat) : zC l G gh (d + 3) n_X2_heat f_X2_heat := zmet_ok (pcs := p_X2_heat) (by decide) rfl rfl (tt_X2_heat d)
def n_X2_isSeen : qMn := (yX2_isSeen, cX2_isSeen, 1, (some Jvm.ClassFile.FieldType.boolean), 0, 0)
theorem to_X2_isSeen : qTo n_X2_isSeen 0 := ⟨g759, g106, ⟨by decide, by decide, by decide +kernel⟩, by decide⟩
def p_X2_isSeen : List Nat := [0, 8, 12, 13]
noncomputable def b_X2_isSeen_0 : zBl := fun jp K => oAld 0 <| oInt 2147483649 <| oCv 2 1 gs_X2_reckon <| oIf zle zgt (jp 2) (jp 1)
theorem s_X2_isSeen_0 (d : Nat) : zPb l G gh (d + 3) n_X2_isSeen p_X2_isSeen 0 b_X2_isSeen_0 := fun K jp hj =>
    z_aload_n (n := 0) (i := 0) (zd (i := .aload_n 0) (n := 1) (by decide +kernel)) rfl <|
    z_iconst (n := 1) (zd (i := .iconst (1)) (n := 1) (by decide +kernel)) (by decide +kernel) <|
    z_callV (idx := 46) (ci := 2) (N := n_X2_reckon) (zd (i := .invokevirtual 46) (n := 3) (by decide +kernel)) to_X2_reckon g728 g730 g20 (by decide +kernel) rfl rfl rfl (cs_X2_reckon (l := l) (G := G) (gh := gh) (d)) <|
    z_if_le (off := 7) (tgt := 12) (zd (i := .ifCond .le (7)) (n := 3) (by decide +kernel)) (by decide +kernel) (zj (hj 2) (by decide +kernel)) (zj (hj 1) (by decide +kernel))
noncomputable def b_X2_isSeen_1 : zBl := fun jp K => oInt 2147483649 <| jp 3
theorem s_X2_isSeen_1 (d : Nat) : zPb l G gh (d + 3) n_X2_isSeen p_X2_isSeen 8 b_X2_isSeen_1 := fun K jp hj =>
    z_iconst (n := 1) (zd (i := .iconst (1)) (n := 1) (by decide +kernel)) (by decide +kernel) <|
    z_goto (off := 4) (tgt := 13) (zd (i := .goto (4)) (n := 3) (by decide +kernel)) (by decide +kernel) (zj (hj 3) (by decide +kernel))
noncomputable def b_X2_isSeen_2 : zBl := fun jp K => oInt 2147483648 <| jp 3
theorem s_X2_isSeen_2 (d : Nat) : zPb l G gh (d + 3) n_X2_isSeen p_X2_isSeen 12 b_X2_isSeen_2 := fun K jp hj =>
    z_iconst (n := 0) (zd (i := .iconst (0)) (n := 1) (by decide +kernel)) (by decide +kernel) <|
    (zj (hj 3) (by decide +kernel))
noncomputable def b_X2_isSeen_3 : zBl := fun jp K => oZret K
theorem s_X2_isSeen_3 (d : Nat) : zPb l G gh (d + 3) n_X2_isSeen p_X2_isSeen 13 b_X2_isSeen_3 := fun K jp hj =>
    z_zret (zd (i := .ireturn) (n := 1) (by decide +kernel)) rfl
noncomputable def t_X2_isSeen : List zBl := [b_X2_isSeen_0, b_X2_isSeen_1, b_X2_isSeen_2, b_X2_isSeen_3]
theorem tt_X2_isSeen (d : Nat) : zT (zPb l G gh (d + 3) n_X2_isSeen p_X2_isSeen) t_X2_isSeen p_X2_isSeen := ⟨s_X2_isSeen_0 d, s_X2_isSeen_1 d, s_X2_isSeen_2 d, s_X2_isSeen_3 d, trivial⟩
noncomputable def f_X2_isSeen : zMt := zmet 1 t_X2_isSeen
theorem c_X2_isSeen (d : Nat) : zC l G gh (d + 3) n_X2_isSeen f_X2_isSeen := zmet_ok (pcs := p_X2_isSeen) (by decide) rfl rfl (tt_X2_isSeen d)
def n_X8_loan : qMn := (yX8_loan, cX8_loan, 5, (some Jvm.ClassFile.FieldType.int), 0, 0)
theorem to_X8_loan : qTo n_X8_loan 3 := ⟨g796, g97, ⟨by decide, by decide, by decide +kernel⟩, by decide⟩
def p_X8_loan : List Nat := [0, 9, 13, 18, 20, 40, 43, 47, 60, 70]
noncomputable def b_X8_loan_0 : zBl := fun jp K => oAld 0 <| oIld 1 <| oIld 2 <| oCv 8 2 f_X8_isPair <| oIf zeq zne (jp 3) (jp 1)
theorem s_X8_loan_0 (d : Nat) : zPb l G gh (d + 3) n_X8_loan p_X8_loan 0 b_X8_loan_0 := fun K jp hj =>
    z_aload_n (n := 0) (i := 0) (zd (i := .aload_n 0) (n := 1) (by decide +kernel)) rfl <|
    z_iload_n (n := 1) (i := 1) (zd (i := .iload_n 1) (n := 1) (by decide +kernel)) rfl <|
    z_iload_n (n := 2) (i := 2) (zd (i := .iload_n 2) (n := 1) (by decide +kernel)) rfl <|
    z_callV (idx := 162) (ci := 8) (N := n_X8_isPair) (zd (i := .invokevirtual 162) (n := 3) (by decide +kernel)) to_X8_isPair g797 g799 g26 (by decide +kernel) rfl rfl rfl (c_X8_isPair (l := l) (G := G) (gh := gh) (d)) <|
    z_if_eq (off := 12) (tgt := 18) (zd (i := .ifCond .eq (12)) (n := 3) (by decide +kernel)) (by decide +kernel) (zj (hj 3) (by decide +kernel)) (zj (hj 1) (by decide +kernel))
noncomputable def b_X8_loan_1 : zBl := fun jp K => oNLC 3 2147483648 zltN zgeN zn1_lt zn1_ge (jp 3) (jp 2)
theorem s_X8_loan_1 (d : Nat) : zPb l G gh (d + 3) n_X8_loan p_X8_loan 9 b_X8_loan_1 := fun K jp hj =>
    z_nL0_lt (i := 3) (a1 := 1) (off := 8) (tgt := 18) (zLd_n (n := 3) (i := 3) (zd (i := .iload_n 3) (n := 1) (by decide +kernel)) rfl) (zd (i := .ifCond .lt (8)) (n := 3) (by decide +kernel)) (by decide +kernel) (zj (hj 3) (by decide +kernel)) (zj (hj 2) (by decide +kernel))
noncomputable def b_X8_loan_2 : zBl := fun jp K => oNLC 3 2147483649 zleN zgtN zn1_le zn1_gt (jp 4) (jp 3)
theorem s_X8_loan_2 (d : Nat) : zPb l G gh (d + 3) n_X8_loan p_X8_loan 13 b_X8_loan_2 := fun K jp hj =>
    z_nLC_le (i := 3) (c0 := 2147483649) (a1 := 1) (a2 := 1) (off := 5) (tgt := 20) (zLd_n (n := 3) (i := 3) (zd (i := .iload_n 3) (n := 1) (by decide +kernel)) rfl) (zCn_c (n := 1) (zd (i := .iconst (1)) (n := 1) (by decide +kernel)) (by decide +kernel)) (zd (i := .if_icmp .le (5)) (n := 3) (by decide +kernel)) (by decide +kernel) (zj (hj 4) (by decide +kernel)) (zj (hj 3) (by decide +kernel))
noncomputable def b_X8_loan_3 : zBl := fun jp K => oInt 2147483647 <| oIret K
theorem s_X8_loan_3 (d : Nat) : zPb l G gh (d + 3) n_X8_loan p_X8_loan 18 b_X8_loan_3 := fun K jp hj =>
    z_iconst (n := -1) (zd (i := .iconst (-1)) (n := 1) (by decide +kernel)) (by decide +kernel) <|
    z_iret (zd (i := .ireturn) (n := 1) (by decide +kernel)) rfl
noncomputable def b_X8_loan_4 : zBl := fun jp K => oIld 1 <| oIld 2 <| oCs 2 f_X8_loanOf <| oIst 4 <| oAld 0 <| oGetR 8 2 <| oGetR 4 5 <| oIld 4 <| oXald 10 <| oIf zne zeq (jp 6) (jp 5)
theorem s_X8_loan_4 (d : Nat) : zPb l G gh (d + 3) n_X8_loan p_X8_loan 20 b_X8_loan_4 := fun K jp hj =>
    z_iload_n (n := 1) (i := 1) (zd (i := .iload_n 1) (n := 1) (by decide +kernel)) rfl <|
    z_iload_n (n := 2) (i := 2) (zd (i := .iload_n 2) (n := 1) (by decide +kernel)) rfl <|
    z_callS (idx := 166) (N := n_X8_loanOf) (zd (i := .invokestatic 166) (n := 3) (by decide +kernel)) to_X8_loanOf g764 g765 rfl rfl (c_X8_loanOf (l := l) (G := G) (gh := gh) (d + 1)) <|
    z_istore (i := 4) (zd (i := .istore 4) (n := 2) (by decide +kernel)) (by decide +kernel) <|
    z_aload_n (n := 0) (i := 0) (zd (i := .aload_n 0) (n := 1) (by decide +kernel)) rfl <|
    z_getR (ci := 8) (j := 2) (idx := 26) (zd (i := .getfield 26) (n := 3) (by decide +kernel)) (by decide +kernel) (by decide +kernel) rfl g454 <|
    z_getR (ci := 4) (j := 5) (idx := 169) (zd (i := .getfield 169) (n := 3) (by decide +kernel)) (by decide +kernel) (by decide +kernel) rfl g383 <|
    z_iload (i := 4) (zd (i := .iload 4) (n := 2) (by decide +kernel)) <|
    z_iald (zd (i := .iaload) (n := 1) (by decide +kernel)) <|
    z_if_ne (off := 6) (tgt := 43) (zd (i := .ifCond .ne (6)) (n := 3) (by decide +kernel)) (by decide +kernel) (zj (hj 6) (by decide +kernel)) (zj (hj 5) (by decide +kernel))
noncomputable def b_X8_loan_5 : zBl := fun jp K => oInt 2147483646 <| oIret K
theorem s_X8_loan_5 (d : Nat) : zPb l G gh (d + 3) n_X8_loan p_X8_loan 40 b_X8_loan_5 := fun K jp hj =>
    z_bipush (n := -2) (zd (i := .bipush (-2)) (n := 2) (by decide +kernel)) (by decide +kernel) <|
    z_iret (zd (i := .ireturn) (n := 1) (by decide +kernel)) rfl
noncomputable def b_X8_loan_6 : zBl := fun jp K => oNLC 3 2147483648 zneN zeqN zn1_ne zn1_eq (jp 8) (jp 7)
theorem s_X8_loan_6 (d : Nat) : zPb l G gh (d + 3) n_X8_loan p_X8_loan 43 b_X8_loan_6 := fun K jp hj =>
    z_nL0_ne (i := 3) (a1 := 1) (off := 16) (tgt := 60) (zLd_n (n := 3) (i := 3) (zd (i := .iload_n 3) (n := 1) (by decide +kernel)) rfl) (zd (i := .ifCond .ne (16)) (n := 3) (by decide +kernel)) (by decide +kernel) (zj (hj 8) (by decide +kernel)) (zj (hj 7) (by decide +kernel))
noncomputable def b_X8_loan_7 : zBl := fun jp K => oAld 0 <| oGetR 8 2 <| oGetR 4 5 <| oIld 4 <| oXald 10 <| jp 9
theorem s_X8_loan_7 (d : Nat) : zPb l G gh (d + 3) n_X8_loan p_X8_loan 47 b_X8_loan_7 := fun K jp hj =>
    z_aload_n (n := 0) (i := 0) (zd (i := .aload_n 0) (n := 1) (by decide +kernel)) rfl <|
    z_getR (ci := 8) (j := 2) (idx := 26) (zd (i := .getfield 26) (n := 3) (by decide +kernel)) (by decide +kernel) (by decide +kernel) rfl g454 <|
    z_getR (ci := 4) (j := 5) (idx := 169) (zd (i := .getfield 169) (n := 3) (by decide +kernel)) (by decide +kernel) (by decide +kernel) rfl g383 <|
    z_iload (i := 4) (zd (i := .iload 4) (n := 2) (by decide +kernel)) <|
    z_iald (zd (i := .iaload) (n := 1) (by decide +kernel)) <|
    z_goto (off := 13) (tgt := 70) (zd (i := .goto (13)) (n := 3) (by decide +kernel)) (by decide +kernel) (zj (hj 9) (by decide +kernel))
noncomputable def b_X8_loan_8 : zBl := fun jp K => oAld 0 <| oGetR 8 2 <| oGetR 4 6 <| oIld 4 <| oXald 10 <| jp 9
theorem s_X8_loan_8 (d : Nat) : zPb l G gh (d + 3) n_X8_loan p_X8_loan 60 b_X8_loan_8 := fun K jp hj =>
    z_aload_n (n := 0) (i := 0) (zd (i := .aload_n 0) (n := 1) (by decide +kernel)) rfl <|
    z_getR (ci := 8) (j := 2) (idx := 26) (zd (i := .getfield 26) (n := 3) (by decide +kernel)) (by decide +kernel) (by decide +kernel) rfl g454 <|
    z_getR (ci := 4) (j := 6) (idx := 172) (zd (i := .getfield 172) (n := 3) (by decide +kernel)) (by decide +kernel) (by decide +kernel) rfl g386 <|
    z_iload (i := 4) (zd (i := .iload 4) (n := 2) (by decide +kernel)) <|
    z_iald (zd (i := .iaload) (n := 1) (by decide +kernel)) <|
    (zj (hj 9) (by decide +kernel))
noncomputable def b_X8_loan_9 : zBl := fun jp K => oIret K
theorem s_X8_loan_9 (d : Nat) : zPb l G gh (d + 3) n_X8_loan p_X8_loan 70 b_X8_loan_9 := fun K jp hj =>
    z_iret (zd (i := .ireturn) (n := 1) (by decide +kernel)) rfl
noncomputable def t_X8_loan : List zBl := [b_X8_loan_0, b_X8_loan_1, b_X8_loan_2, b_X8_loan_3, b_X8_loan_4, b_X8_loan_5, b_X8_loan_6, b_X8_loan_7, b_X8_loan_8, b_X8_loan_9]
theorem tt_X8_loan (d : Nat) : zT (zPb l G gh (d + 3) n_X8_loan p_X8_loan) t_X8_loan p_X8_loan := ⟨s_X8_loan_0 d, s_X8_loan_1 d, s_X8_loan_2 d, s_X8_loan_3 d, s_X8_loan_4 d, s_X8_loan_5 d, s_X8_loan_6 d, s_X8_loan_7 d, s_X8_loan_8 d, s_X8_loan_9 d, trivial⟩
def q_X8_loan_0 : List (Nat × Nat) := [(0, zk12), (21, zk22), (26, zk23), (259, zk8)]
noncomputable def al_X8_loan_0 : zAq := [(some (.inl 8589934591), [(0, zk12), (21, zk22), (26, zk23), (259, zk8)])]
noncomputable def fm_X8_loan_0 : List zFm := [(0, [], (fun vs => [.inr (.ref 0), .inl 9223372043297226757, .inl 9223372043297226757, .inl 2147483648]), (fun vs => zP q_X8_loan_0), (fun vs => Nat.sub (Nat.add 0 0) 0))]
def bf_X8_loan_0 : List Nat := []
theorem r_X8_loan_0_0 : zbox [] (fun vs => zFrun (zpost (zAlq al_X8_loan_0)) 1000 t_X8_loan fm_X8_loan_0 bf_X8_loan_0 (0, vs)) = true := by decide +kernel
set_option maxRecDepth 100000 in
theorem x_X8_loan_0 (d : Nat) : zS l G gh (d + 3) (zpost (zAlq al_X8_loan_0)) n_X8_loan (zn 0 p_X8_loan 0) (zwc (0, [.inr (.ref 0), .inl 9223372043297226757, .inl 9223372043297226757, .inl 2147483648], zP q_X8_loan_0) 0) := zentry (tt_X8_loan d) fm_X8_loan_0 bf_X8_loan_0 1000 (by decide +kernel) rfl ⟨Nat.zero_lt_succ _, trivial⟩ (fun f hf => match f, hf with
  | 0, _ => fun vs hv => (zbox_t r_X8_loan_0_0) vs hv
  | f + 1, h => absurd (show f + 1 < 1 from h) (Nat.not_lt.mpr (Nat.le_add_left 1 f)))
noncomputable def gs_X8_loan_0 : zMt := zgq false [] 5 [.inr (.ref 0), .inl 9223372043297226757, .inl 9223372043297226757, .inl 2147483648] q_X8_loan_0 al_X8_loan_0
set_option maxRecDepth 100000 in
theorem cs_X8_loan_0 (d : Nat) : zC l G gh (d + 3) n_X8_loan gs_X8_loan_0 := zgq_ok0 (pcs := p_X8_loan) (by decide) rfl rfl (fun a ha => by simp only [al_X8_loan_0, List.mem_cons, List.not_mem_nil, or_false] at ha; rcases ha with rfl <;> decide +kernel) (fun gh => x_X8_loan_0 d) (by decide +kernel)
def q_X8_loan_1 : List (Nat × Nat) := [(0, zk12), (21, zk22), (26, zk23), (27, zk23), (259, zk8)]
noncomputable def al_X8_loan_1 : zAq := [(some (.inl 8589934591), [(0, zk12), (21, zk22), (26, zk23), (27, zk23), (259, zk8)])]
noncomputable def fm_X8_loan_1 : List zFm := [(0, [], (fun vs => [.inr (.ref 0), .inl 9223372043297226757, .inl 9223372043297226757, .inl 2147483649]), (fun vs => zP q_X8_loan_1), (fun vs => Nat.sub (Nat.add 0 0) 0))]
def bf_X8_loan_1 : List Nat := []
theorem r_X8_loan_1_0 : zbox [] (fun vs => zFrun (zpost (zAlq al_X8_loan_1)) 1000 t_X8_loan fm_X8_loan_1 bf_X8_loan_1 (0, vs)) = true := by decide +kernel
set_option maxRecDepth 100000 in
theorem x_X8_loan_1 (d : Nat) : zS l G gh (d + 3) (zpost (zAlq al_X8_loan_1)) n_X8_loan (zn 0 p_X8_loan 0) (zwc (0, [.inr (.ref 0), .inl 9223372043297226757, .inl 9223372043297226757, .inl 2147483649], zP q_X8_loan_1) 0) := zentry (tt_X8_loan d) fm_X8_loan_1 bf_X8_loan_1 1000 (by decide +kernel) rfl ⟨Nat.zero_lt_succ _, trivial⟩ (fun f hf => match f, hf with
  | 0, _ => fun vs hv => (zbox_t r_X8_loan_1_0) vs hv
  | f + 1, h => absurd (show f + 1 < 1 from h) (Nat.not_lt.mpr (Nat.le_add_left 1 f)))
noncomputable def gs_X8_loan_1 : zMt := zgq false [] 5 [.inr (.ref 0), .inl 9223372043297226757, .inl 9223372043297226757, .inl 2147483649] q_X8_loan_1 al_X8_loan_1
set_option maxRecDepth 100000 in
theorem cs_X8_loan_1 (d : Nat) : zC l G gh (d + 3) n_X8_loan gs_X8_loan_1 := zgq_ok0 (pcs := p_X8_loan) (by decide) rfl rfl (fun a ha => by simp only [al_X8_loan_1, List.mem_cons, List.not_mem_nil, or_false] at ha; rcases ha with rfl <;> decide +kernel) (fun gh => x_X8_loan_1 d) (by decide +kernel)
def q_X8_loan_2 : List (Nat × Nat) := [(0, zk12), (259, zk8)]
noncomputable def al_X8_loan_2 : zAq := [(some (.inl 2147483647), [(0, zk12), (259, zk8)])]
noncomputable def fm_X8_loan_2 : List zFm := [(0, [], (fun vs => [.inr (.ref 0), .inl 9223372043297226757, .inl 9223372043297226757, .inl 6442450943]), (fun vs => zP q_X8_loan_2), (fun vs => Nat.sub (Nat.add 0 0) 0))]
def bf_X8_loan_2 : List Nat := []
theorem r_X8_loan_2_0 : zbox [] (fun vs => zFrun (zpost (zAlq al_X8_loan_2)) 1000 t_X8_loan fm_X8_loan_2 bf_X8_loan_2 (0, vs)) = true := by decide +kernel
set_option maxRecDepth 100000 in
theorem x_X8_loan_2 (d : Nat) : zS l G gh (d + 3) (zpost (zAlq al_X8_loan_2)) n_X8_loan (zn 0 p_X8_loan 0) (zwc (0, [.inr (.ref 0), .inl 9223372043297226757, .inl 9223372043297226757, .inl 6442450943], zP q_X8_loan_2) 0) := zentry (tt_X8_loan d) fm_X8_loan_2 bf_X8_loan_2 1000 (by decide +kernel) rfl ⟨Nat.zero_lt_succ _, trivial⟩ (fun f hf => match f, hf with
  | 0, _ => fun vs hv => (zbox_t r_X8_loan_2_0) vs hv
  | f + 1, h => absurd (show f + 1 < 1 from h) (Nat.not_lt.mpr (Nat.le_add_left 1 f)))
noncomputable def gs_X8_loan_2 : zMt := zgq false [] 5 [.inr (.ref 0), .inl 9223372043297226757, .inl 9223372043297226757, .inl 6442450943] q_X8_loan_2 al_X8_loan_2
set_option maxRecDepth 100000 in
theorem cs_X8_loan_2 (d : Nat) : zC l G gh (d + 3) n_X8_loan gs_X8_loan_2 := zgq_ok0 (pcs := p_X8_loan) (by decide) rfl rfl (fun a ha => by simp only [al_X8_loan_2, List.mem_cons, List.not_mem_nil, or_false] at ha; rcases ha with rfl <;> decide +kernel) (fun gh => x_X8_loan_2 d) (by decide +kernel)
def q_X8_loan_3 : List (Nat × Nat) := [(0, zk12), (259, zk8)]
noncomputable def al_X8_loan_3 : zAq := [(some (.inl 2147483647), [(0, zk12), (259, zk8)])]
noncomputable def fm_X8_loan_3 : List zFm := [(0, [], (fun vs => [.inr (.ref 0), .inl 9223372043297226757, .inl 9223372043297226757, .inl 9223372054034644991]), (fun vs => zP q_X8_loan_3), (fun vs => Nat.sub (Nat.add 0 0) 0))]
def bf_X8_loan_3 : List Nat := []
theorem r_X8_loan_3_0 : zbox [] (fun vs => zFrun (zpost (zAlq al_X8_loan_3)) 1000 t_X8_loan fm_X8_loan_3 bf_X8_loan_3 (0, vs)) = true := by decide +kernel
set_option maxRecDepth 100000 in
theorem x_X8_loan_3 (d : Nat) : zS l G gh (d + 3) (zpost (zAlq al_X8_loan_3)) n_X8_loan (zn 0 p_X8_loan 0) (zwc (0, [.inr (.ref 0), .inl 9223372043297226757, .inl 9223372043297226757, .inl 9223372054034644991], zP q_X8_loan_3) 0) := zentry (tt_X8_loan d) fm_X8_loan_3 bf_X8_loan_3 1000 (by decide +kernel) rfl ⟨Nat.zero_lt_succ _, trivial⟩ (fun f hf => match f, hf with
  | 0, _ => fun vs hv => (zbox_t r_X8_loan_3_0) vs hv
  | f + 1, h => absurd (show f + 1 < 1 from h) (Nat.not_lt.mpr (Nat.le_add_left 1 f)))
noncomputable def gs_X8_loan_3 : zMt := zgq false [] 5 [.inr (.ref 0), .inl 9223372043297226757, .inl 9223372043297226757, .inl 9223372054034644991] q_X8_loan_3 al_X8_loan_3
set_option maxRecDepth 100000 in
theorem cs_X8_loan_3 (d : Nat) : zC l G gh (d + 3) n_X8_loan gs_X8_loan_3 := zgq_ok0 (pcs := p_X8_loan) (by decide) rfl rfl (fun a ha => by simp only [al_X8_loan_3, List.mem_cons, List.not_mem_nil, or_false] at ha; rcases ha with rfl <;> decide +kernel) (fun gh => x_X8_loan_3 d) (by decide +kernel)
def q_X8_loan_4 : List (Nat × Nat) := [(0, zk12), (259, zk8)]
noncomputable def al_X8_loan_4 : zAq := [(some (.inl 2147483647), [(0, zk12), (259, zk8)])]
noncomputable def fm_X8_loan_4 : List zFm := [(0, [], (fun vs => [.inr (.ref 0), .inl 9223372043297226757, .inl 6442450943, .inl 8589934591]), (fun vs => zP q_X8_loan_4), (fun vs => Nat.sub (Nat.add 0 0) 0))]
def bf_X8_loan_4 : List Nat := []
theorem r_X8_loan_4_0 : zbox [] (fun vs => zFrun (zpost (zAlq al_X8_loan_4)) 1000 t_X8_loan fm_X8_loan_4 bf_X8_loan_4 (0, vs)) = true := by decide +kernel
set_option maxRecDepth 100000 in
theorem x_X8_loan_4 (d : Nat) : zS l G gh (d + 3) (zpost (zAlq al_X8_loan_4)) n_X8_loan (zn 0 p_X8_loan 0) (zwc (0, [.inr (.ref 0), .inl 9223372043297226757, .inl 6442450943, .inl 8589934591], zP q_X8_loan_4) 0) := zentry (tt_X8_loan d) fm_X8_loan_4 bf_X8_loan_4 1000 (by decide +kernel) rfl ⟨Nat.zero_lt_succ _, trivial⟩ (fun f hf => match f, hf with
  | 0, _ => fun vs hv => (zbox_t r_X8_loan_4_0) vs hv
  | f + 1, h => absurd (show f + 1 < 1 from h) (Nat.not_lt.mpr (Nat.le_add_left 1 f)))
noncomputable def gs_X8_loan_4 : zMt := zgq false [] 5 [.inr (.ref 0), .inl 9223372043297226757, .inl 6442450943, .inl 8589934591] q_X8_loan_4 al_X8_loan_4
set_option maxRecDepth 100000 in
theorem cs_X8_loan_4 (d : Nat) : zC l G gh (d + 3) n_X8_loan gs_X8_loan_4 := zgq_ok0 (pcs := p_X8_loan) (by decide) rfl rfl (fun a ha => by simp only [al_X8_loan_4, List.mem_cons, List.not_mem_nil, or_false] at ha; rcases ha with rfl <;> decide +kernel) (fun gh => x_X8_loan_4 d) (by decide +kernel)
def q_X8_loan_5 : List (Nat × Nat) := [(0, zk12), (259, zk8)]
noncomputable def al_X8_loan_5 : zAq := [(some (.inl 2147483647), [(0, zk12), (259, zk8)])]
noncomputable def fm_X8_loan_5 : List zFm := [(0, [], (fun vs => [.inr (.ref 0), .inl 9223372043297226757, .inl 9223372071214514175, .inl 8589934591]), (fun vs => zP q_X8_loan_5), (fun vs => Nat.sub (Nat.add 0 0) 0))]
def bf_X8_loan_5 : List Nat := []
theorem r_X8_loan_5_0 : zbox [] (fun vs => zFrun (zpost (zAlq al_X8_loan_5)) 1000 t_X8_loan fm_X8_loan_5 bf_X8_loan_5 (0, vs)) = true := by decide +kernel
set_option maxRecDepth 100000 in
theorem x_X8_loan_5 (d : Nat) : zS l G gh (d + 3) (zpost (zAlq al_X8_loan_5)) n_X8_loan (zn 0 p_X8_loan 0) (zwc (0, [.inr (.ref 0), .inl 9223372043297226757, .inl 9223372071214514175, .inl 8589934591], zP q_X8_loan_5) 0) := zentry (tt_X8_loan d) fm_X8_loan_5 bf_X8_loan_5 1000 (by decide +kernel) rfl ⟨Nat.zero_lt_succ _, trivial⟩ (fun f hf => match f, hf with
  | 0, _ => fun vs hv => (zbox_t r_X8_loan_5_0) vs hv
  | f + 1, h => absurd (show f + 1 < 1 from h) (Nat.not_lt.mpr (Nat.le_add_left 1 f)))
noncomputable def gs_X8_loan_5 : zMt := zgq false [] 5 [.inr (.ref 0), .inl 9223372043297226757, .inl 9223372071214514175, .inl 8589934591] q_X8_loan_5 al_X8_loan_5
set_option maxRecDepth 100000 in
theorem cs_X8_loan_5 (d : Nat) : zC l G gh (d + 3) n_X8_loan gs_X8_loan_5 := zgq_ok0 (pcs := p_X8_loan) (by decide) rfl rfl (fun a ha => by simp only [al_X8_loan_5, List.mem_cons, List.not_mem_nil, or_false] at ha; rcases ha with rfl <;> decide +kernel) (fun gh => x_X8_loan_5 d) (by decide +kernel)
def q_X8_loan_6 : List (Nat × Nat) := [(0, zk12)]
noncomputable def al_X8_loan_6 : zAq := [(some (.inl 2147483647), [(0, zk12)])]
noncomputable def fm_X8_loan_6 : List zFm := [(0, [], (fun vs => [.inr (.ref 0), .inl 6442450943, .inl 8589934591, .inl 8589934591]), (fun vs => zP q_X8_loan_6), (fun vs => Nat.sub (Nat.add 0 0) 0))]
def bf_X8_loan_6 : List Nat := []
theorem r_X8_loan_6_0 : zbox [] (fun vs => zFrun (zpost (zAlq al_X8_loan_6)) 1000 t_X8_loan fm_X8_loan_6 bf_X8_loan_6 (0, vs)) = true := by decide +kernel
set_option maxRecDepth 100000 in
theorem x_X8_loan_6 (d : Nat) : zS l G gh (d + 3) (zpost (zAlq al_X8_loan_6)) n_X8_loan (zn 0 p_X8_loan 0) (zwc (0, [.inr (.ref 0), .inl 6442450943, .inl 8589934591, .inl 8589934591], zP q_X8_loan_6) 0) := zentry (tt_X8_loan d) fm_X8_loan_6 bf_X8_loan_6 1000 (by decide +kernel) rfl ⟨Nat.zero_lt_succ _, trivial⟩ (fun f hf => match f, hf with
  | 0, _ => fun vs hv => (zbox_t r_X8_loan_6_0) vs hv
  | f + 1, h => absurd (show f + 1 < 1 from h) (Nat.not_lt.mpr (Nat.le_add_left 1 f)))
noncomputable def gs_X8_loan_6 : zMt := zgq false [] 5 [.inr (.ref 0), .inl 6442450943, .inl 8589934591, .inl 8589934591] q_X8_loan_6 al_X8_loan_6
set_option maxRecDepth 100000 in
theorem cs_X8_loan_6 (d : Nat) : zC l G gh (d + 3) n_X8_loan gs_X8_loan_6 := zgq_ok0 (pcs := p_X8_loan) (by decide) rfl rfl (fun a ha => by simp only [al_X8_loan_6, List.mem_cons, List.not_mem_nil, or_false] at ha; rcases ha with rfl <;> decide +kernel) (fun gh => x_X8_loan_6 d) (by decide +kernel)
def q_X8_loan_7 : List (Nat × Nat) := [(0, zk12), (259, zk8)]
noncomputable def al_X8_loan_7 : zAq := [(some (.inl 2147483647), [(0, zk12), (259, zk8)])]
noncomputable def fm_X8_loan_7 : List zFm := [(0, [], (fun vs => [.inr (.ref 0), .inl 9223372071214514175, .inl 8589934591, .inl 8589934591]), (fun vs => zP q_X8_loan_7), (fun vs => Nat.sub (Nat.add 0 0) 0))]
def bf_X8_loan_7 : List Nat := []
theorem r_X8_loan_7_0 : zbox [] (fun vs => zFrun (zpost (zAlq al_X8_loan_7)) 1000 t_X8_loan fm_X8_loan_7 bf_X8_loan_7 (0, vs)) = true := by decide +kernel
set_option maxRecDepth 100000 in
theorem x_X8_loan_7 (d : Nat) : zS l G gh (d + 3) (zpost (zAlq al_X8_loan_7)) n_X8_loan (zn 0 p_X8_loan 0) (zwc (0, [.inr (.ref 0), .inl 9223372071214514175, .inl 8589934591, .inl 8589934591], zP q_X8_loan_7) 0) := zentry (tt_X8_loan d) fm_X8_loan_7 bf_X8_loan_7 1000 (by decide +kernel) rfl ⟨Nat.zero_lt_succ _, trivial⟩ (fun f hf => match f, hf with
  | 0, _ => fun vs hv => (zbox_t r_X8_loan_7_0) vs hv
  | f + 1, h => absurd (show f + 1 < 1 from h) (Nat.not_lt.mpr (Nat.le_add_left 1 f)))
noncomputable def gs_X8_loan_7 : zMt := zgq false [] 5 [.inr (.ref 0), .inl 9223372071214514175, .inl 8589934591, .inl 8589934591] q_X8_loan_7 al_X8_loan_7
set_option maxRecDepth 100000 in
theorem cs_X8_loan_7 (d : Nat) : zC l G gh (d + 3) n_X8_loan gs_X8_loan_7 := zgq_ok0 (pcs := p_X8_loan) (by decide) rfl rfl (fun a ha => by simp only [al_X8_loan_7, List.mem_cons, List.not_mem_nil, or_false] at ha; rcases ha with rfl <;> decide +kernel) (fun gh => x_X8_loan_7 d) (by decide +kernel)
def q_X8_loan_8 : List (Nat × Nat) := [(0, zk13), (9, zk6), (21, zk22), (26, zk23)]
noncomputable def al_X8_loan_8 : zAq := [(some (.inl 8589934591), [(0, zk13), (9, zk6), (21, zk22), (26, zk23)])]
noncomputable def fm_X8_loan_8 : List zFm := [(0, [], (fun vs => [.inr (.ref 0), .inl 9223372043297226757, .inl 9223372043297226757, .inl 2147483648]), (fun vs => zP q_X8_loan_8), (fun vs => Nat.sub (Nat.add 0 0) 0))]
def bf_X8_loan_8 : List Nat := []
theorem r_X8_loan_8_0 : zbox [] (fun vs => zFrun (zpost (zAlq al_X8_loan_8)) 1000 t_X8_loan fm_X8_loan_8 bf_X8_loan_8 (0, vs)) = true := by decide +kernel
set_option maxRecDepth 100000 in
theorem x_X8_loan_8 (d : Nat) : zS l G gh (d + 3) (zpost (zAlq al_X8_loan_8)) n_X8_loan (zn 0 p_X8_loan 0) (zwc (0, [.inr (.ref 0), .inl 9223372043297226757, .inl 9223372043297226757, .inl 2147483648], zP q_X8_loan_8) 0) := zentry (tt_X8_loan d) fm_X8_loan_8 bf_X8_loan_8 1000 (by decide +kernel) rfl ⟨Nat.zero_lt_succ _, trivial⟩ (fun f hf => match f, hf with
  | 0, _ => fun vs hv => (zbox_t r_X8_loan_8_0) vs hv
  | f + 1, h => absurd (show f + 1 < 1 from h) (Nat.not_lt.mpr (Nat.le_add_left 1 f)))
noncomputable def gs_X8_loan_8 : zMt := zgq false [] 5 [.inr (.ref 0), .inl 9223372043297226757, .inl 9223372043297226757, .inl 2147483648] q_X8_loan_8 al_X8_loan_8
set_option maxRecDepth 100000 in
theorem cs_X8_loan_8 (d : Nat) : zC l G gh (d + 3) n_X8_loan gs_X8_loan_8 := zgq_ok0 (pcs := p_X8_loan) (by decide) rfl rfl (fun a ha => by simp only [al_X8_loan_8, List.mem_cons, List.not_mem_nil, or_false] at ha; rcases ha with rfl <;> decide +kernel) (fun gh => x_X8_loan_8 d) (by decide +kernel)
def q_X8_loan_9 : List (Nat × Nat) := [(0, zk13), (9, zk6), (21, zk22), (26, zk23), (27, zk23)]
noncomputable def al_X8_loan_9 : zAq := [(some (.inl 8589934591), [(0, zk13), (9, zk6), (21, zk22), (26, zk23), (27, zk23)])]
noncomputable def fm_X8_loan_9 : List zFm := [(0, [], (fun vs => [.inr (.ref 0), .inl 9223372043297226757, .inl 9223372043297226757, .inl 2147483649]), (fun vs => zP q_X8_loan_9), (fun vs => Nat.sub (Nat.add 0 0) 0))]
def bf_X8_loan_9 : List Nat := []
theorem r_X8_loan_9_0 : zbox [] (fun vs => zFrun (zpost (zAlq al_X8_loan_9)) 1000 t_X8_loan fm_X8_loan_9 bf_X8_loan_9 (0, vs)) = true := by decide +kernel
set_option maxRecDepth 100000 in
theorem x_X8_loan_9 (d : Nat) : zS l G gh (d + 3) (zpost (zAlq al_X8_loan_9)) n_X8_loan (zn 0 p_X8_loan 0) (zwc (0, [.inr (.ref 0), .inl 9223372043297226757, .inl 9223372043297226757, .inl 2147483649], zP q_X8_loan_9) 0) := zentry (tt_X8_loan d) fm_X8_loan_9 bf_X8_loan_9 1000 (by decide +kernel) rfl ⟨Nat.zero_lt_succ _, trivial⟩ (fun f hf => match f, hf with
  | 0, _ => fun vs hv => (zbox_t r_X8_loan_9_0) vs hv
  | f + 1, h => absurd (show f + 1 < 1 from h) (Nat.not_lt.mpr (Nat.le_add_left 1 f)))
noncomputable def gs_X8_loan_9 : zMt := zgq false [] 5 [.inr (.ref 0), .inl 9223372043297226757, .inl 9223372043297226757, .inl 2147483649] q_X8_loan_9 al_X8_loan_9
set_option maxRecDepth 100000 in
theorem cs_X8_loan_9 (d : Nat) : zC l G gh (d + 3) n_X8_loan gs_X8_loan_9 := zgq_ok0 (pcs := p_X8_loan) (by decide) rfl rfl (fun a ha => by simp only [al_X8_loan_9, List.mem_cons, List.not_mem_nil, or_false] at ha; rcases ha with rfl <;> decide +kernel) (fun gh => x_X8_loan_9 d) (by decide +kernel)
def q_X8_loan_10 : List (Nat × Nat) := [(0, zk13), (9, zk6)]
noncomputable def al_X8_loan_10 : zAq := [(some (.inl 2147483647), [(0, zk13), (9, zk6)])]
noncomputable def fm_X8_loan_10 : List zFm := [(0, [], (fun vs => [.inr (.ref 0), .inl 9223372043297226757, .inl 9223372043297226757, .inl 6442450943]), (fun vs => zP q_X8_loan_10), (fun vs => Nat.sub (Nat.add 0 0) 0))]
def bf_X8_loan_10 : List Nat := []
theorem r_X8_loan_10_0 : zbox [] (fun vs => zFrun (zpost (zAlq al_X8_loan_10)) 1000 t_X8_loan fm_X8_loan_10 bf_X8_loan_10 (0, vs)) = true := by decide +kernel
set_option maxRecDepth 100000 in
theorem x_X8_loan_10 (d : Nat) : zS l G gh (d + 3) (zpost (zAlq al_X8_loan_10)) n_X8_loan (zn 0 p_X8_loan 0) (zwc (0, [.inr (.ref 0), .inl 9223372043297226757, .inl 9223372043297226757, .inl 6442450943], zP q_X8_loan_10) 0) := zentry (tt_X8_loan d) fm_X8_loan_10 bf_X8_loan_10 1000 (by decide +kernel) rfl ⟨Nat.zero_lt_succ _, trivial⟩ (fun f hf => match f, hf with
  | 0, _ => fun vs hv => (zbox_t r_X8_loan_10_0) vs hv
  | f + 1, h => absurd (show f + 1 < 1 from h) (Nat.not_lt.mpr (Nat.le_add_left 1 f)))
noncomputable def gs_X8_loan_10 : zMt := zgq false [] 5 [.inr (.ref 0), .inl 9223372043297226757, .inl 9223372043297226757, .inl 6442450943] q_X8_loan_10 al_X8_loan_10
set_option maxRecDepth 100000 in
theorem cs_X8_loan_10 (d : Nat) : zC l G gh (d + 3) n_X8_loan gs_X8_loan_10 := zgq_ok0 (pcs := p_X8_loan) (by decide) rfl rfl (fun a ha => by simp only [al_X8_loan_10, List.mem_cons, List.not_mem_nil, or_false] at ha; rcases ha with rfl <;> decide +kernel) (fun gh => x_X8_loan_10 d) (by decide +kernel)
def q_X8_loan_11 : List (Nat × Nat) := [(0, zk13), (9, zk6)]
noncomputable def al_X8_loan_11 : zAq := [(some (.inl 2147483647), [(0, zk13), (9, zk6)])]
noncomputable def fm_X8_loan_11 : List zFm := [(0, [], (fun vs => [.inr (.ref 0), .inl 9223372043297226757, .inl 9223372043297226757, .inl 9223372054034644991]), (fun vs => zP q_X8_loan_11), (fun vs => Nat.sub (Nat.add 0 0) 0))]
def bf_X8_loan_11 : List Nat := []
theorem r_X8_loan_11_0 : zbox [] (fun vs => zFrun (zpost (zAlq al_X8_loan_11)) 1000 t_X8_loan fm_X8_loan_11 bf_X8_loan_11 (0, vs)) = true := by decide +kernel
set_option maxRecDepth 100000 in
theorem x_X8_loan_11 (d : Nat) : zS l G gh (d + 3) (zpost (zAlq al_X8_loan_11)) n_X8_loan (zn 0 p_X8_loan 0) (zwc (0, [.inr (.ref 0), .inl 9223372043297226757, .inl 9223372043297226757, .inl 9223372054034644991], zP q_X8_loan_11) 0) := zentry (tt_X8_loan d) fm_X8_loan_11 bf_X8_loan_11 1000 (by decide +kernel) rfl ⟨Nat.zero_lt_succ _, trivial⟩ (fun f hf => match f, hf with
  | 0, _ => fun vs hv => (zbox_t r_X8_loan_11_0) vs hv
  | f + 1, h => absurd (show f + 1 < 1 from h) (Nat.not_lt.mpr (Nat.le_add_left 1 f)))
noncomputable def gs_X8_loan_11 : zMt := zgq false [] 5 [.inr (.ref 0), .inl 9223372043297226757, .inl 9223372043297226757, .inl 9223372054034644991] q_X8_loan_11 al_X8_loan_11
set_option maxRecDepth 100000 in
theorem cs_X8_loan_11 (d : Nat) : zC l G gh (d + 3) n_X8_loan gs_X8_loan_11 := zgq_ok0 (pcs := p_X8_loan) (by decide) rfl rfl (fun a ha => by simp only [al_X8_loan_11, List.mem_cons, List.not_mem_nil, or_false] at ha; rcases ha with rfl <;> decide +kernel) (fun gh => x_X8_loan_11 d) (by decide +kernel)
def q_X8_loan_12 : List (Nat × Nat) := [(0, zk13), (9, zk6)]
noncomputable def al_X8_loan_12 : zAq := [(some (.inl 2147483647), [(0, zk13), (9, zk6)])]
noncomputable def fm_X8_loan_12 : List zFm := [(0, [], (fun vs => [.inr (.ref 0), .inl 9223372043297226757, .inl 6442450943, .inl 8589934591]), (fun vs => zP q_X8_loan_12), (fun vs => Nat.sub (Nat.add 0 0) 0))]
def bf_X8_loan_12 : List Nat := []
theorem r_X8_loan_12_0 : zbox [] (fun vs => zFrun (zpost (zAlq al_X8_loan_12)) 1000 t_X8_loan fm_X8_loan_12 bf_X8_loan_12 (0, vs)) = true := by decide +kernel
set_option maxRecDepth 100000 in
theorem x_X8_loan_12 (d : Nat) : zS l G gh (d + 3) (zpost (zAlq al_X8_loan_12)) n_X8_loan (zn 0 p_X8_loan 0) (zwc (0, [.inr (.ref 0), .inl 9223372043297226757, .inl 6442450943, .inl 8589934591], zP q_X8_loan_12) 0) := zentry (tt_X8_loan d) fm_X8_loan_12 bf_X8_loan_12 1000 (by decide +kernel) rfl ⟨Nat.zero_lt_succ _, trivial⟩ (fun f hf => match f, hf with
  | 0, _ => fun vs hv => (zbox_t r_X8_loan_12_0) vs hv
  | f + 1, h => absurd (show f + 1 < 1 from h) (Nat.not_lt.mpr (Nat.le_add_left 1 f)))
noncomputable def gs_X8_loan_12 : zMt := zgq false [] 5 [.inr (.ref 0), .inl 9223372043297226757, .inl 6442450943, .inl 8589934591] q_X8_loan_12 al_X8_loan_12
set_option maxRecDepth 100000 in
theorem cs_X8_loan_12 (d : Nat) : zC l G gh (d + 3) n_X8_loan gs_X8_loan_12 := zgq_ok0 (pcs := p_X8_loan) (by decide) rfl rfl (fun a ha => by simp only [al_X8_loan_12, List.mem_cons, List.not_mem_nil, or_false] at ha; rcases ha with rfl <;> decide +kernel) (fun gh => x_X8_loan_12 d) (by decide +kernel)
def q_X8_loan_13 : List (Nat × Nat) := [(0, zk13), (9, zk6)]
noncomputable def al_X8_loan_13 : zAq := [(some (.inl 2147483647), [(0, zk13), (9, zk6)])]
noncomputable def fm_X8_loan_13 : List zFm := [(0, [], (fun vs => [.inr (.ref 0), .inl 9223372043297226757, .inl 9223372071214514175, .inl 8589934591]), (fun vs => zP q_X8_loan_13), (fun vs => Nat.sub (Nat.add 0 0) 0))]
def bf_X8_loan_13 : List Nat := []
theorem r_X8_loan_13_0 : zbox [] (fun vs => zFrun (zpost (zAlq al_X8_loan_13)) 1000 t_X8_loan fm_X8_loan_13 bf_X8_loan_13 (0, vs)) = true := by decide +kernel
set_option maxRecDepth 100000 in
theorem x_X8_loan_13 (d : Nat) : zS l G gh (d + 3) (zpost (zAlq al_X8_loan_13)) n_X8_loan (zn 0 p_X8_loan 0) (zwc (0, [.inr (.ref 0), .inl 9223372043297226757, .inl 9223372071214514175, .inl 8589934591], zP q_X8_loan_13) 0) := zentry (tt_X8_loan d) fm_X8_loan_13 bf_X8_loan_13 1000 (by decide +kernel) rfl ⟨Nat.zero_lt_succ _, trivial⟩ (fun f hf => match f, hf with
  | 0, _ => fun vs hv => (zbox_t r_X8_loan_13_0) vs hv
  | f + 1, h => absurd (show f + 1 < 1 from h) (Nat.not_lt.mpr (Nat.le_add_left 1 f)))
noncomputable def gs_X8_loan_13 : zMt := zgq false [] 5 [.inr (.ref 0), .inl 9223372043297226757, .inl 9223372071214514175, .inl 8589934591] q_X8_loan_13 al_X8_loan_13
set_option maxRecDepth 100000 in
theorem cs_X8_loan_13 (d : Nat) : zC l G gh (d + 3) n_X8_loan gs_X8_loan_13 := zgq_ok0 (pcs := p_X8_loan) (by decide) rfl rfl (fun a ha => by simp only [al_X8_loan_13, List.mem_cons, List.not_mem_nil, or_false] at ha; rcases ha with rfl <;> decide +kernel) (fun gh => x_X8_loan_13 d) (by decide +kernel)
def q_X8_loan_14 : List (Nat × Nat) := [(0, zk13)]
noncomputable def al_X8_loan_14 : zAq := [(some (.inl 2147483647), [(0, zk13)])]
noncomputable def fm_X8_loan_14 : List zFm := [(0, [], (fun vs => [.inr (.ref 0), .inl 6442450943, .inl 8589934591, .inl 8589934591]), (fun vs => zP q_X8_loan_14), (fun vs => Nat.sub (Nat.add 0 0) 0))]
def bf_X8_loan_14 : List Nat := []
theorem r_X8_loan_14_0 : zbox [] (fun vs => zFrun (zpost (zAlq al_X8_loan_14)) 1000 t_X8_loan fm_X8_loan_14 bf_X8_loan_14 (0, vs)) = true := by decide +kernel
set_option maxRecDepth 100000 in
theorem x_X8_loan_14 (d : Nat) : zS l G gh (d + 3) (zpost (zAlq al_X8_loan_14)) n_X8_loan (zn 0 p_X8_loan 0) (zwc (0, [.inr (.ref 0), .inl 6442450943, .inl 8589934591, .inl 8589934591], zP q_X8_loan_14) 0) := zentry (tt_X8_loan d) fm_X8_loan_14 bf_X8_loan_14 1000 (by decide +kernel) rfl ⟨Nat.zero_lt_succ _, trivial⟩ (fun f hf => match f, hf with
  | 0, _ => fun vs hv => (zbox_t r_X8_loan_14_0) vs hv
  | f + 1, h => absurd (show f + 1 < 1 from h) (Nat.not_lt.mpr (Nat.le_add_left 1 f)))
noncomputable def gs_X8_loan_14 : zMt := zgq false [] 5 [.inr (.ref 0), .inl 6442450943, .inl 8589934591, .inl 8589934591] q_X8_loan_14 al_X8_loan_14
set_option maxRecDepth 100000 in
theorem cs_X8_loan_14 (d : Nat) : zC l G gh (d + 3) n_X8_loan gs_X8_loan_14 := zgq_ok0 (pcs := p_X8_loan) (by decide) rfl rfl (fun a ha => by simp only [al_X8_loan_14, List.mem_cons, List.not_mem_nil, or_false] at ha; rcases ha with rfl <;> decide +kernel) (fun gh => x_X8_loan_14 d) (by decide +kernel)
def q_X8_loan_15 : List (Nat × Nat) := [(0, zk13), (9, zk6)]
noncomputable def al_X8_loan_15 : zAq := [(some (.inl 2147483647), [(0, zk13), (9, zk6)])]
noncomputable def fm_X8_loan_15 : List zFm := [(0, [], (fun vs => [.inr (.ref 0), .inl 9223372071214514175, .inl 8589934591, .inl 8589934591]), (fun vs => zP q_X8_loan_15), (fun vs => Nat.sub (Nat.add 0 0) 0))]
def bf_X8_loan_15 : List Nat := []
theorem r_X8_loan_15_0 : zbox [] (fun vs => zFrun (zpost (zAlq al_X8_loan_15)) 1000 t_X8_loan fm_X8_loan_15 bf_X8_loan_15 (0, vs)) = true := by decide +kernel
set_option maxRecDepth 100000 in
theorem x_X8_loan_15 (d : Nat) : zS l G gh (d + 3) (zpost (zAlq al_X8_loan_15)) n_X8_loan (zn 0 p_X8_loan 0) (zwc (0, [.inr (.ref 0), .inl 9223372071214514175, .inl 8589934591, .inl 8589934591], zP q_X8_loan_15) 0) := zentry (tt_X8_loan d) fm_X8_loan_15 bf_X8_loan_15 1000 (by decide +kernel) rfl ⟨Nat.zero_lt_succ _, trivial⟩ (fun f hf => match f, hf with
  | 0, _ => fun vs hv => (zbox_t r_X8_loan_15_0) vs hv
  | f + 1, h => absurd (show f + 1 < 1 from h) (Nat.not_lt.mpr (Nat.le_add_left 1 f)))
noncomputable def gs_X8_loan_15 : zMt := zgq false [] 5 [.inr (.ref 0), .inl 9223372071214514175, .inl 8589934591, .inl 8589934591] q_X8_loan_15 al_X8_loan_15
set_option maxRecDepth 100000 in
theorem cs_X8_loan_15 (d : Nat) : zC l G gh (d + 3) n_X8_loan gs_X8_loan_15 := zgq_ok0 (pcs := p_X8_loan) (by decide) rfl rfl (fun a ha => by simp only [al_X8_loan_15, List.mem_cons, List.not_mem_nil, or_false] at ha; rcases ha with rfl <;> decide +kernel) (fun gh => x_X8_loan_15 d) (by decide +kernel)
noncomputable def gs_X8_loan : zMt := (zor gs_X8_loan_0 (zor gs_X8_loan_1 (zor gs_X8_loan_2 (zor gs_X8_loan_3 (zor gs_X8_loan_4 (zor gs_X8_loan_5 (zor gs_X8_loan_6 (zor gs_X8_loan_7 (zor gs_X8_loan_8 (zor gs_X8_loan_9 (zor gs_X8_loan_10 (zor gs_X8_loan_11 (zor gs_X8_loan_12 (zor gs_X8_loan_13 (zor gs_X8_loan_14 gs_X8_loan_15)))))))))))))))
theorem cs_X8_loan (d : Nat) : zC l G gh (d + 3) n_X8_loan gs_X8_loan := (zor_ok (cs_X8_loan_0 d) (zor_ok (cs_X8_loan_1 d) (zor_ok (cs_X8_loan_2 d) (zor_ok (cs_X8_loan_3 d) (zor_ok (cs_X8_loan_4 d) (zor_ok (cs_X8_loan_5 d) (zor_ok (cs_X8_loan_6 d) (zor_ok (cs_X8_loan_7 d) (zor_ok (cs_X8_loan_8 d) (zor_ok (cs_X8_loan_9 d) (zor_ok (cs_X8_loan_10 d) (zor_ok (cs_X8_loan_11 d) (zor_ok (cs_X8_loan_12 d) (zor_ok (cs_X8_loan_13 d) (zor_ok (cs_X8_loan_14 d) (cs_X8_loan_15 d))))))))))))))))
def n_X2_moved : qMn := (yX2_moved, cX2_moved, 1, (some Jvm.ClassFile.FieldType.int), 0, 0)
theorem to_X2_moved : qTo n_X2_moved 0 := ⟨g815, g106, ⟨by decide, by decide, by decide +kernel⟩, by decide⟩
def p_X2_moved : List Nat := [0]
noncomputable def b_X2_moved_0 : zBl := fun jp K => oInt 2147483639 <| oAld 0 <| oInt 2147483650 <| oCv 2 1 gs_X2_reckon <| oInt 2147483657 <| oCs 3 f_X8_within <| oIret K
theorem s_X2_moved_0 (d : Nat) : zPb l G gh (d + 3) n_X2_moved p_X2_moved 0 b_X2_moved_0 := fun K jp hj =>
    z_bipush (n := -9) (zd (i := .bipush (-9)) (n := 2) (by decide +kernel)) (by decide +kernel) <|
    z_aload_n (n := 0) (i := 0) (zd (i := .aload_n 0) (n := 1) (by decide +kernel)) rfl <|
    z_iconst (n := 2) (zd (i := .iconst (2)) (n := 1) (by decide +kernel)) (by decide +kernel) <|
    z_callV (idx := 46) (ci := 2) (N := n_X2_reckon) (zd (i := .invokevirtual 46) (n := 3) (by decide +kernel)) to_X2_reckon g728 g730 g20 (by decide +kernel) rfl rfl rfl (cs_X2_reckon (l := l) (G := G) (gh := gh) (d)) <|
    z_bipush (n := 9) (zd (i := .bipush (9)) (n := 2) (by decide +kernel)) (by decide +kernel) <|
    z_callSN (idx := 50) (N := n_X8_within) (host := "MirageLoans") (zd (i := .invokestatic 50) (n := 3) (by decide +kernel)) to_X8_within (by decide +kernel) g741 rfl rfl (c_X8_within (l := l) (G := G) (gh := gh) (d + 1)) <|
    z_iret (zd (i := .ireturn) (n := 1) (by decide +kernel)) rfl
noncomputable def t_X2_moved : List zBl := [b_X2_moved_0]
theorem tt_X2_moved (d : Nat) : zT (zPb l G gh (d + 3) n_X2_moved p_X2_moved) t_X2_moved p_X2_moved := ⟨s_X2_moved_0 d, trivial⟩
noncomputable def f_X2_moved : zMt := zmet 1 t_X2_moved
theorem c_X2_moved (d : Nat) : zC l G gh (d + 3) n_X2_moved f_X2_moved := zmet_ok (pcs := p_X2_moved) (by decide) rfl rfl (tt_X2_moved d)
def n_X2_rent : qMn := (yX2_rent, cX2_rent, 2, (some Jvm.ClassFile.FieldType.int), 0, 0)
theorem to_X2_rent : qTo n_X2_rent 1 := ⟨g823, g106, ⟨by decide, by decide, by decide +kernel⟩, by decide⟩
def p_X2_rent : List Nat := [0]
noncomputable def b_X2_rent_0 : zBl := fun jp K => oAld 0 <| oGetR 2 4 <| oInt 2147483654 <| oIld 1 <| oXast 10 zid <| oInt 2147483648 <| oAld 0 <| oInt 2147483651 <| oCv 2 1 gs_X2_reckon <| oInt 2147483747 <| oCs 3 f_X8_within <| oIret K
theorem s_X2_rent_0 (d : Nat) : zPb l G gh (d + 3) n_X2_rent p_X2_rent 0 b_X2_rent_0 := fun K jp hj =>
    z_aload_n (n := 0) (i := 0) (zd (i := .aload_n 0) (n := 1) (by decide +kernel)) rfl <|
    z_getR (ci := 2) (j := 4) (idx := 25) (zd (i := .getfield 25) (n := 3) (by decide +kernel)) (by decide +kernel) (by decide +kernel) rfl g241 <|
    z_bipush (n := 6) (zd (i := .bipush (6)) (n := 2) (by decide +kernel)) (by decide +kernel) <|
    z_iload_n (n := 1) (i := 1) (zd (i := .iload_n 1) (n := 1) (by decide +kernel)) rfl <|
    z_iast (zd (i := .iastore) (n := 1) (by decide +kernel)) <|
    z_iconst (n := 0) (zd (i := .iconst (0)) (n := 1) (by decide +kernel)) (by decide +kernel) <|
    z_aload_n (n := 0) (i := 0) (zd (i := .aload_n 0) (n := 1) (by decide +kernel)) rfl <|
    z_iconst (n := 3) (zd (i := .iconst (3)) (n := 1) (by decide +kernel)) (by decide +kernel) <|
    z_callV (idx := 46) (ci := 2) (N := n_X2_reckon) (zd (i := .invokevirtual 46) (n := 3) (by decide +kernel)) to_X2_reckon g728 g730 g20 (by decide +kernel) rfl rfl rfl (cs_X2_reckon (l := l) (G := G) (gh := gh) (d)) <|
    z_bipush (n := 99) (zd (i := .bipush (99)) (n := 2) (by decide +kernel)) (by decide +kernel) <|
    z_callSN (idx := 50) (N := n_X8_within) (host := "MirageLoans") (zd (i := .invokestatic 50) (n := 3) (by decide +kernel)) to_X8_within (by decide +kernel) g741 rfl rfl (c_X8_within (l := l) (G := G) (gh := gh) (d + 1)) <|
    z_iret (zd (i := .ireturn) (n := 1) (by decide +kernel)) rfl
noncomputable def t_X2_rent : List zBl := [b_X2_rent_0]
theorem tt_X2_rent (d : Nat) : zT (zPb l G gh (d + 3) n_X2_rent p_X2_rent) t_X2_rent p_X2_rent := ⟨s_X2_rent_0 d, trivial⟩
noncomputable def f_X2_rent : zMt := zmet 2 t_X2_rent
theorem c_X2_rent (d : Nat) : zC l G gh (d + 3) n_X2_rent f_X2_rent := zmet_ok (pcs := p_X2_rent) (by decide) rfl rfl (tt_X2_rent d)
def n_X2_interest : qMn := (yX2_interest, cX2_interest, 4, (some Jvm.ClassFile.FieldType.int), 0, 0)
theorem to_X2_interest : qTo n_X2_interest 3 := ⟨g827, g106, ⟨by decide, by decide, by decide +kernel⟩, by decide⟩
def p_X2_interest : List Nat := [0]
noncomputable def b_X2_interest_0 : zBl := fun jp K => oAld 0 <| oIld 1 <| oCv 2 1 gs_X2_clearVars <| oAld 0 <| oGetR 2 4 <| oInt 2147483650 <| oIld 2 <| oXast 10 zid <| oAld 0 <| oGetR 2 4 <| oInt 2147483654 <| oIld 3 <| oXast 10 zid <| oInt 2147483648 <| oAld 0 <| oInt 2147483652 <| oCv 2 1 gs_X2_reckon <| oInt 2147483747 <| oCs 3 f_X8_within <| oIret K
theorem s_X2_interest_0 (d : Nat) : zPb l G gh (d + 3) n_X2_interest p_X2_interest 0 b_X2_interest_0 := fun K jp hj =>
    z_aload_n (n := 0) (i := 0) (zd (i := .aload_n 0) (n := 1) (by decide +kernel)) rfl <|
    z_iload_n (n := 1) (i := 1) (zd (i := .iload_n 1) (n := 1) (by decide +kernel)) rfl <|
    z_callV (idx := 43) (ci := 2) (N := n_X2_clearVars) (zd (i := .invokevirtual 43) (n := 3) (by decide +kernel)) to_X2_clearVars g724 g726 g19 (by decide +kernel) rfl rfl rfl (cs_X2_clearVars (l := l) (G := G) (gh := gh) (d + 1)) <|
    z_aload_n (n := 0) (i := 0) (zd (i := .aload_n 0) (n := 1) (by decide +kernel)) rfl <|
    z_getR (ci := 2) (j := 4) (idx := 25) (zd (i := .getfield 25) (n := 3) (by decide +kernel)) (by decide +kernel) (by decide +kernel) rfl g241 <|
    z_iconst (n := 2) (zd (i := .iconst (2)) (n := 1) (by decide +kernel)) (by decide +kernel) <|
    z_iload_n (n := 2) (i := 2) (zd (i := .iload_n 2) (n := 1) (by decide +kernel)) rfl <|
    z_iast (zd (i := .iastore) (n := 1) (by decide +kernel)) <|
    z_aload_n (n := 0) (i := 0) (zd (i := .aload_n 0) (n := 1) (by decide +kernel)) rfl <|
    z_getR (ci := 2) (j := 4) (idx := 25) (zd (i := .getfield 25) (n := 3) (by decide +kernel)) (by decide +kernel) (by decide +kernel) rfl g241 <|
    z_bipush (n := 6) (zd (i := .bipush (6)) (n := 2) (by decide +kernel)) (by decide +kernel) <|
    z_iload_n (n := 3) (i := 3) (zd (i := .iload_n 3) (n := 1) (by decide +kernel)) rfl <|
    z_iast (zd (i := .iastore) (n := 1) (by decide +kernel)) <|
    z_iconst (n := 0) (zd (i := .iconst (0)) (n := 1) (by decide +kernel)) (by decide +kernel) <|
    z_aload_n (n := 0) (i := 0) (zd (i := .aload_n 0) (n := 1) (by decide +kernel)) rfl <|
    z_iconst (n := 4) (zd (i := .iconst (4)) (n := 1) (by decide +kernel)) (by decide +kernel) <|
    z_callV (idx := 46) (ci := 2) (N := n_X2_reckon) (zd (i := .invokevirtual 46) (n := 3) (by decide +kernel)) to_X2_reckon g728 g730 g20 (by decide +kernel) rfl rfl rfl (cs_X2_reckon (l := l) (G := G) (gh := gh) (d)) <|
    z_bipush (n := 99) (zd (i := .bipush (99)) (n := 2) (by decide +kernel)) (by decide +kernel) <|
    z_callSN (idx := 50) (N := n_X8_within) (host := "MirageLoans") (zd (i := .invokestatic 50) (n := 3) (by decide +kernel)) to_X8_within (by decide +kernel) g741 rfl rfl (c_X8_within (l := l) (G := G) (gh := gh) (d + 1)) <|
    z_iret (zd (i := .ireturn) (n := 1) (by decide +kernel)) rfl
noncomputable def t_X2_interest : List zBl := [b_X2_interest_0]
theorem tt_X2_interest (d : Nat) : zT (zPb l G gh (d + 3) n_X2_interest p_X2_interest) t_X2_interest p_X2_interest := ⟨s_X2_interest_0 d, trivial⟩
noncomputable def f_X2_interest : zMt := zmet 4 t_X2_interest
theorem c_X2_interest (d : Nat) : zC l G gh (d + 3) n_X2_interest f_X2_interest := zmet_ok (pcs := p_X2_interest) (by decide) rfl rfl (tt_X2_interest d)
def n_X8_move : qMn := (yX8_move, cX8_move, 3, (some Jvm.ClassFile.FieldType.boolean), 0, 0)
theorem to_X8_move : qTo n_X8_move 2 := ⟨g857, g97, ⟨by decide, by decide, by decide +kernel⟩, by decide⟩
def p_X8_move : List Nat := [0, 8, 15, 28, 30]
noncomputable def b_X8_move_0 : zBl := fun jp K => oAld 0 <| oIld 1 <| oCv 8 1 f_X8_isSeat <| oIf zeq zne (jp 3) (jp 1)
theorem s_X8_move_0 (d : Nat) : zPb l G gh (d + 3) n_X8_move p_X8_move 0 b_X8_move_0 := fun K jp hj =>
    z_aload_n (n := 0) (i := 0) (zd (i := .aload_n 0) (n := 1) (by decide +kernel)) rfl <|
    z_iload_n (n := 1) (i := 1) (zd (i := .iload_n 1) (n := 1) (by decide +kernel)) rfl <|
    z_callV (idx := 131) (ci := 8) (N := n_X8_isSeat) (zd (i := .invokevirtual 131) (n := 3) (by decide +kernel)) to_X8_isSeat g771 g773 g23 (by decide +kernel) rfl rfl rfl (c_X8_isSeat (l := l) (G := G) (gh := gh) (d + 1)) <|
    z_if_eq (off := 23) (tgt := 28) (zd (i := .ifCond .eq (23)) (n := 3) (by decide +kernel)) (by decide +kernel) (zj (hj 3) (by decide +kernel)) (zj (hj 1) (by decide +kernel))
noncomputable def b_X8_move_1 : zBl := fun jp K => oIld 2 <| oCs 1 f_X8_isX <| oIf zeq zne (jp 3) (jp 2)
theorem s_X8_move_1 (d : Nat) : zPb l G gh (d + 3) n_X8_move p_X8_move 8 b_X8_move_1 := fun K jp hj =>
    z_iload_n (n := 2) (i := 2) (zd (i := .iload_n 2) (n := 1) (by decide +kernel)) rfl <|
    z_callS (idx := 175) (N := n_X8_isX) (zd (i := .invokestatic 175) (n := 3) (by decide +kernel)) to_X8_isX g805 g806 rfl rfl (c_X8_isX (l := l) (G := G) (gh := gh) (d + 1)) <|
    z_if_eq (off := 16) (tgt := 28) (zd (i := .ifCond .eq (16)) (n := 3) (by decide +kernel)) (by decide +kernel) (zj (hj 3) (by decide +kernel)) (zj (hj 2) (by decide +kernel))
noncomputable def b_X8_move_2 : zBl := fun jp K => oAld 0 <| oGetR 8 2 <| oGetR 4 1 <| oIld 1 <| oXald 10 <| oIld 2 <| oIc zne zeq (jp 4) (jp 3)
theorem s_X8_move_2 (d : Nat) : zPb l G gh (d + 3) n_X8_move p_X8_move 15 b_X8_move_2 := fun K jp hj =>
    z_aload_n (n := 0) (i := 0) (zd (i := .aload_n 0) (n := 1) (by decide +kernel)) rfl <|
    z_getR (ci := 8) (j := 2) (idx := 26) (zd (i := .getfield 26) (n := 3) (by decide +kernel)) (by decide +kernel) (by decide +kernel) rfl g454 <|
    z_getR (ci := 4) (j := 1) (idx := 134) (zd (i := .getfield 134) (n := 3) (by decide +kernel)) (by decide +kernel) (by decide +kernel) rfl g371 <|
    z_iload_n (n := 1) (i := 1) (zd (i := .iload_n 1) (n := 1) (by decide +kernel)) rfl <|
    z_iald (zd (i := .iaload) (n := 1) (by decide +kernel)) <|
    z_iload_n (n := 2) (i := 2) (zd (i := .iload_n 2) (n := 1) (by decide +kernel)) rfl <|
    z_icmp_ne (off := 5) (tgt := 30) (zd (i := .if_icmp .ne (5)) (n := 3) (by decide +kernel)) (by decide +kernel) (zj (hj 4) (by decide +kernel)) (zj (hj 3) (by decide +kernel))
noncomputable def b_X8_move_3 : zBl := fun jp K => oInt 2147483648 <| oZret K
theorem s_X8_move_3 (d : Nat) : zPb l G gh (d + 3) n_X8_move p_X8_move 28 b_X8_move_3 := fun K jp hj =>
    z_iconst (n := 0) (zd (i := .iconst (0)) (n := 1) (by decide +kernel)) (by decide +kernel) <|
    z_zret (zd (i := .ireturn) (n := 1) (by decide +kernel)) rfl
noncomputable def b_X8_move_4 : zBl := fun jp K => oAld 0 <| oGetR 8 4 <| oAld 0 <| oGetR 8 2 <| oCv 3 1 gs_X3_push <| oAld 0 <| oGetR 8 2 <| oGetR 4 1 <| oIld 1 <| oIld 2 <| oXast 10 zid <| oInt 2147483649 <| oZret K
theorem s_X8_move_4 (d : Nat) : zPb l G gh (d + 3) n_X8_move p_X8_move 30 b_X8_move_4 := fun K jp hj =>
    z_aload_n (n := 0) (i := 0) (zd (i := .aload_n 0) (n := 1) (by decide +kernel)) rfl <|
    z_getR (ci := 8) (j := 4) (idx := 36) (zd (i := .getfield 36) (n := 3) (by decide +kernel)) (by decide +kernel) (by decide +kernel) rfl g456 <|
    z_aload_n (n := 0) (i := 0) (zd (i := .aload_n 0) (n := 1) (by decide +kernel)) rfl <|
    z_getR (ci := 8) (j := 2) (idx := 26) (zd (i := .getfield 26) (n := 3) (by decide +kernel)) (by decide +kernel) (by decide +kernel) rfl g454 <|
    z_callV (idx := 199) (ci := 3) (N := n_X3_push) (zd (i := .invokevirtual 199) (n := 3) (by decide +kernel)) to_X3_push g836 g837 g838 (by decide +kernel) rfl rfl rfl (cs_X3_push (l := l) (G := G) (gh := gh) (d)) <|
    z_aload_n (n := 0) (i := 0) (zd (i := .aload_n 0) (n := 1) (by decide +kernel)) rfl <|
    z_getR (ci := 8) (j := 2) (idx := 26) (zd (i := .getfield 26) (n := 3) (by decide +kernel)) (by decide +kernel) (by decide +kernel) rfl g454 <|
    z_getR (ci := 4) (j := 1) (idx := 134) (zd (i := .getfield 134) (n := 3) (by decide +kernel)) (by decide +kernel) (by decide +kernel) rfl g371 <|
    z_iload_n (n := 1) (i := 1) (zd (i := .iload_n 1) (n := 1) (by decide +kernel)) rfl <|
    z_iload_n (n := 2) (i := 2) (zd (i := .iload_n 2) (n := 1) (by decide +kernel)) rfl <|
    z_iast (zd (i := .iastore) (n := 1) (by decide +kernel)) <|
    z_iconst (n := 1) (zd (i := .iconst (1)) (n := 1) (by decide +kernel)) (by decide +kernel) <|
    z_zret (zd (i := .ireturn) (n := 1) (by decide +kernel)) rfl
noncomputable def t_X8_move : List zBl := [b_X8_move_0, b_X8_move_1, b_X8_move_2, b_X8_move_3, b_X8_move_4]
theorem tt_X8_move (d : Nat) : zT (zPb l G gh (d + 3) n_X8_move p_X8_move) t_X8_move p_X8_move := ⟨s_X8_move_0 d, s_X8_move_1 d, s_X8_move_2 d, s_X8_move_3 d, s_X8_move_4 d, trivial⟩
def q_X8_move_0 : List (Nat × Nat) := [(0, zk12), (21, zk22), (22, zk10), (23, zk10), (24, zk10), (25, zk10), (26, zk23), (27, zk23), (35, zk35), (36, zk36), (37, zk37), (38, zk10), (39, zk10), (40, zk10), (41, zk10), (42, zk23), (43, zk23), (44, zk38), (45, zk10), (46, zk10), (47, zk10), (48, zk10), (49, zk23), (50, zk23), (51, zk39), (52, zk10), (53, zk10), (54, zk10), (55, zk10), (56, zk23), (57, zk23), (58, zk40), (59, zk10), (60, zk10), (61, zk10), (62, zk10), (63, zk23), (64, zk23), (65, zk41), (66, zk10), (67, zk10), (68, zk10), (69, zk10), (70, zk23), (71, zk23), (72, zk42), (73, zk10), (74, zk10), (75, zk10), (76, zk10), (77, zk23), (78, zk23), (79, zk43), (80, zk10), (81, zk10), (82, zk10), (83, zk10), (84, zk23), (85, zk23), (86, zk44), (87, zk10), (88, zk10), (89, zk10), (90, zk10), (91, zk23), (92, zk23), (93, zk45), (94, zk10), (95, zk10), (96, zk10), (97, zk10), (98, zk23), (99, zk23), (100, zk46), (101, zk10), (102, zk10), (103, zk10), (104, zk10), (105, zk23), (106, zk23), (107, zk47), (108, zk10), (109, zk10), (110, zk10), (111, zk10), (112, zk23), (113, zk23), (114, zk48), (115, zk10), (116, zk10), (117, zk10), (118, zk10), (119, zk23), (120, zk23), (121, zk49), (122, zk10), (123, zk10), (124, zk10), (125, zk10), (126, zk23), (127, zk23), (128, zk50), (129, zk10), (130, zk10), (131, zk10), (132, zk10), (133, zk23), (134, zk23), (135, zk51), (136, zk10), (137, zk10), (138, zk10), (139, zk10), (140, zk23), (141, zk23), (142, zk52), (143, zk10), (144, zk10), (145, zk10), (146, zk10), (147, zk23), (148, zk23), (149, zk53), (150, zk10), (151, zk10), (152, zk10), (153, zk10), (154, zk23), (155, zk23), (156, zk54), (157, zk10), (158, zk10), (159, zk10), (160, zk10), (161, zk23), (162, zk23), (163, zk55), (164, zk10), (165, zk10), (166, zk10), (167, zk10), (168, zk23), (169, zk23), (170, zk56), (171, zk10), (172, zk10), (173, zk10), (174, zk10), (175, zk23), (176, zk23), (177, zk57), (178, zk10), (179, zk10), (180, zk10), (181, zk10), (182, zk23), (183, zk23), (184, zk58), (185, zk10), (186, zk10), (187, zk10), (188, zk10), (189, zk23), (190, zk23), (191, zk59), (192, zk10), (193, zk10), (194, zk10), (195, zk10), (196, zk23), (197, zk23), (198, zk60), (199, zk10), (200, zk10), (201, zk10), (202, zk10), (203, zk23), (204, zk23), (205, zk61), (206, zk10), (207, zk10), (208, zk10), (209, zk10), (210, zk23), (211, zk23), (212, zk62), (213, zk10), (214, zk10), (215, zk10), (216, zk10), (217, zk23), (218, zk23), (219, zk63), (220, zk10), (221, zk10), (222, zk10), (223, zk10), (224, zk23), (225, zk23), (226, zk64), (227, zk10), (228, zk10), (229, zk10), (230, zk10), (231, zk23), (232, zk23), (233, zk65), (234, zk10), (235, zk10), (236, zk10), (237, zk10), (238, zk23), (239, zk23), (240, zk66), (241, zk10), (242, zk10), (243, zk10), (244, zk10), (245, zk23), (246, zk23), (259, zk8)]
noncomputable def al_X8_move_0 : zAq := [(some (.inl 9223372043297226753), [(0, zk12), (21, zk22), (22, zk11), (23, zk10), (24, zk10), (25, zk10), (26, zk23), (27, zk23), (35, zk67), (36, zk36), (37, zk68), (38, zk11), (39, zk11), (40, zk11), (41, zk11), (42, zk31), (43, zk31), (44, zk69), (45, zk11), (46, zk11), (47, zk11), (48, zk11), (49, zk31), (50, zk31), (51, zk70), (52, zk11), (53, zk11), (54, zk11), (55, zk11), (56, zk31), (57, zk31), (58, zk71), (59, zk11), (60, zk11), (61, zk11), (62, zk11), (63, zk31), (64, zk31), (65, zk72), (66, zk11), (67, zk11), (68, zk11), (69, zk11), (70, zk31), (71, zk31), (72, zk73), (73, zk11), (74, zk11), (75, zk11), (76, zk11), (77, zk31), (78, zk31), (79, zk74), (80, zk11), (81, zk11), (82, zk11), (83, zk11), (84, zk31), (85, zk31), (86, zk75), (87, zk11), (88, zk11), (89, zk11), (90, zk11), (91, zk31), (92, zk31), (93, zk76), (94, zk11), (95, zk11), (96, zk11), (97, zk11), (98, zk31), (99, zk31), (100, zk77), (101, zk11), (102, zk11), (103, zk11), (104, zk11), (105, zk31), (106, zk31), (107, zk78), (108, zk11), (109, zk11), (110, zk11), (111, zk11), (112, zk31), (113, zk31), (114, zk79), (115, zk11), (116, zk11), (117, zk11), (118, zk11), (119, zk31), (120, zk31), (121, zk80), (122, zk11), (123, zk11), (124, zk11), (125, zk11), (126, zk31), (127, zk31), (128, zk81), (129, zk11), (130, zk11), (131, zk11), (132, zk11), (133, zk31), (134, zk31), (135, zk82), (136, zk11), (137, zk11), (138, zk11), (139, zk11), (140, zk31), (141, zk31), (142, zk83), (143, zk11), (144, zk11), (145, zk11), (146, zk11), (147, zk31), (148, zk31), (149, zk84), (150, zk11), (151, zk11), (152, zk11), (153, zk11), (154, zk31), (155, zk31), (156, zk85), (157, zk11), (158, zk11), (159, zk11), (160, zk11), (161, zk31), (162, zk31), (163, zk86), (164, zk11), (165, zk11), (166, zk11), (167, zk11), (168, zk31), (169, zk31), (170, zk87), (171, zk11), (172, zk11), (173, zk11), (174, zk11), (175, zk31), (176, zk31), (177, zk88), (178, zk11), (179, zk11), (180, zk11), (181, zk11), (182, zk31), (183, zk31), (184, zk89), (185, zk11), (186, zk11), (187, zk11), (188, zk11), (189, zk31), (190, zk31), (191, zk90), (192, zk11), (193, zk11), (194, zk11), (195, zk11), (196, zk31), (197, zk31), (198, zk91), (199, zk11), (200, zk11), (201, zk11), (202, zk11), (203, zk31), (204, zk31), (205, zk92), (206, zk11), (207, zk11), (208, zk11), (209, zk11), (210, zk31), (211, zk31), (212, zk93), (213, zk11), (214, zk11), (215, zk11), (216, zk11), (217, zk31), (218, zk31), (219, zk94), (220, zk11), (221, zk11), (222, zk11), (223, zk11), (224, zk31), (225, zk31), (226, zk95), (227, zk11), (228, zk11), (229, zk11), (230, zk11), (231, zk31), (232, zk31), (233, zk96), (234, zk11), (235, zk11), (236, zk11), (237, zk11), (238, zk31), (239, zk31), (240, zk97), (241, zk11), (242, zk11), (243, zk11), (244, zk11), (245, zk31), (246, zk31), (259, zk8)])]
noncomputable def fm_X8_move_0 : List zFm := [(0, [], (fun vs => [.inr (.ref 0), .inl 9223372043297226757, .inl 9223372043297226771]), (fun vs => zP q_X8_move_0), (fun vs => Nat.sub (Nat.add 0 0) 0))]
def bf_X8_move_0 : List Nat := []
theorem r_X8_move_0_0 : zbox [] (fun vs => zFrun (zpost (zAlq al_X8_move_0)) 1000 t_X8_move fm_X8_move_0 bf_X8_move_0 (0, vs)) = true := by decide +kernel
set_option maxRecDepth 100000 in
theorem x_X8_move_0 (d : Nat) : zS l G gh (d + 3) (zpost (zAlq al_X8_move_0)) n_X8_move (zn 0 p_X8_move 0) (zwc (0, [.inr (.ref 0), .inl 9223372043297226757, .inl 9223372043297226771], zP q_X8_move_0) 0) := zentry (tt_X8_move d) fm_X8_move_0 bf_X8_move_0 1000 (by decide +kernel) rfl ⟨Nat.zero_lt_succ _, trivial⟩ (fun f hf => match f, hf with
  | 0, _ => fun vs hv => (zbox_t r_X8_move_0_0) vs hv
  | f + 1, h => absurd (show f + 1 < 1 from h) (Nat.not_lt.mpr (Nat.le_add_left 1 f)))
noncomputable def gs_X8_move_0 : zMt := zgq false [] 3 [.inr (.ref 0), .inl 9223372043297226757, .inl 9223372043297226771] q_X8_move_0 al_X8_move_0
set_option maxRecDepth 100000 in
theorem cs_X8_move_0 (d : Nat) : zC l G gh (d + 3) n_X8_move gs_X8_move_0 := zgq_ok0 (pcs := p_X8_move) (by decide) rfl rfl (fun a ha => by simp only [al_X8_move_0, List.mem_cons, List.not_mem_nil, or_false] at ha; rcases ha with rfl <;> decide +kernel) (fun gh => x_X8_move_0 d) (by decide +kernel)
def q_X8_move_1 : List (Nat × Nat) := [(0, zk12), (259, zk8)]
noncomputable def al_X8_move_1 : zAq := [(some (.inl 2147483648), [(0, zk12), (259, zk8)])]
noncomputable def fm_X8_move_1 : List zFm := [(0, [], (fun vs => [.inr (.ref 0), .inl 9223372043297226757, .inl 6442450943]), (fun vs => zP q_X8_move_1), (fun vs => Nat.sub (Nat.add 0 0) 0))]
def bf_X8_move_1 : List Nat := []
theorem r_X8_move_1_0 : zbox [] (fun vs => zFrun (zpost (zAlq al_X8_move_1)) 1000 t_X8_move fm_X8_move_1 bf_X8_move_1 (0, vs)) = true := by decide +kernel
set_option maxRecDepth 100000 in
theorem x_X8_move_1 (d : Nat) : zS l G gh (d + 3) (zpost (zAlq al_X8_move_1)) n_X8_move (zn 0 p_X8_move 0) (zwc (0, [.inr (.ref 0), .inl 9223372043297226757, .inl 6442450943], zP q_X8_move_1) 0) := zentry (tt_X8_move d) fm_X8_move_1 bf_X8_move_1 1000 (by decide +kernel) rfl ⟨Nat.zero_lt_succ _, trivial⟩ (fun f hf => match f, hf with
  | 0, _ => fun vs hv => (zbox_t r_X8_move_1_0) vs hv
  | f + 1, h => absurd (show f + 1 < 1 from h) (Nat.not_lt.mpr (Nat.le_add_left 1 f)))
noncomputable def gs_X8_move_1 : zMt := zgq false [] 3 [.inr (.ref 0), .inl 9223372043297226757, .inl 6442450943] q_X8_move_1 al_X8_move_1
set_option maxRecDepth 100000 in
theorem cs_X8_move_1 (d : Nat) : zC l G gh (d + 3) n_X8_move gs_X8_move_1 := zgq_ok0 (pcs := p_X8_move) (by decide) rfl rfl (fun a ha => by simp only [al_X8_move_1, List.mem_cons, List.not_mem_nil, or_false] at ha; rcases ha with rfl <;> decide +kernel) (fun gh => x_X8_move_1 d) (by decide +kernel)
def q_X8_move_2 : List (Nat × Nat) := [(0, zk12), (259, zk8)]
noncomputable def al_X8_move_2 : zAq := [(some (.inl 2147483648), [(0, zk12), (259, zk8)])]
noncomputable def fm_X8_move_2 : List zFm := [(0, [], (fun vs => [.inr (.ref 0), .inl 9223372043297226757, .inl 9223372131344056319]), (fun vs => zP q_X8_move_2), (fun vs => Nat.sub (Nat.add 0 0) 0))]
def bf_X8_move_2 : List Nat := []
theorem r_X8_move_2_0 : zbox [] (fun vs => zFrun (zpost (zAlq al_X8_move_2)) 1000 t_X8_move fm_X8_move_2 bf_X8_move_2 (0, vs)) = true := by decide +kernel
set_option maxRecDepth 100000 in
theorem x_X8_move_2 (d : Nat) : zS l G gh (d + 3) (zpost (zAlq al_X8_move_2)) n_X8_move (zn 0 p_X8_move 0) (zwc (0, [.inr (.ref 0), .inl 9223372043297226757, .inl 9223372131344056319], zP q_X8_move_2) 0) := zentry (tt_X8_move d) fm_X8_move_2 bf_X8_move_2 1000 (by decide +kernel) rfl ⟨Nat.zero_lt_succ _, trivial⟩ (fun f hf => match f, hf with
  | 0, _ => fun vs hv => (zbox_t r_X8_move_2_0) vs hv
  | f + 1, h => absurd (show f + 1 < 1 from h) (Nat.not_lt.mpr (Nat.le_add_left 1 f)))
noncomputable def gs_X8_move_2 : zMt := zgq false [] 3 [.inr (.ref 0), .inl 9223372043297226757, .inl 9223372131344056319] q_X8_move_2 al_X8_move_2
set_option maxRecDepth 100000 in
theorem cs_X8_move_2 (d : Nat) : zC l G gh (d + 3) n_X8_move gs_X8_move_2 := zgq_ok0 (pcs := p_X8_move) (by decide) rfl rfl (fun a ha => by simp only [al_X8_move_2, List.mem_cons, List.not_mem_nil, or_false] at ha; rcases ha with rfl <;> decide +kernel) (fun gh => x_X8_move_2 d) (by decide +kernel)
def q_X8_move_3 : List (Nat × Nat) := [(0, zk12)]
noncomputable def al_X8_move_3 : zAq := [(some (.inl 2147483648), [(0, zk12)])]
noncomputable def fm_X8_move_3 : List zFm := [(0, [], (fun vs => [.inr (.ref 0), .inl 6442450943, .inl 8589934591]), (fun vs => zP q_X8_move_3), (fun vs => Nat.sub (Nat.add 0 0) 0))]
def bf_X8_move_3 : List Nat := []
theorem r_X8_move_3_0 : zbox [] (fun vs => zFrun (zpost (zAlq al_X8_move_3)) 1000 t_X8_move fm_X8_move_3 bf_X8_move_3 (0, vs)) = true := by decide +kernel
set_option maxRecDepth 100000 in
theorem x_X8_move_3 (d : Nat) : zS l G gh (d + 3) (zpost (zAlq al_X8_move_3)) n_X8_move (zn 0 p_X8_move 0) (zwc (0, [.inr (.ref 0), .inl 6442450943, .inl 8589934591], zP q_X8_move_3) 0) := zentry (tt_X8_move d) fm_X8_move_3 bf_X8_move_3 1000 (by decide +kernel) rfl ⟨Nat.zero_lt_succ _, trivial⟩ (fun f hf => match f, hf with
  | 0, _ => fun vs hv => (zbox_t r_X8_move_3_0) vs hv
  | f + 1, h => absurd (show f + 1 < 1 from h) (Nat.not_lt.mpr (Nat.le_add_left 1 f)))
noncomputable def gs_X8_move_3 : zMt := zgq false [] 3 [.inr (.ref 0), .inl 6442450943, .inl 8589934591] q_X8_move_3 al_X8_move_3
set_option maxRecDepth 100000 in
theorem cs_X8_move_3 (d : Nat) : zC l G gh (d + 3) n_X8_move gs_X8_move_3 := zgq_ok0 (pcs := p_X8_move) (by decide) rfl rfl (fun a ha => by simp only [al_X8_move_3, List.mem_cons, List.not_mem_nil, or_false] at ha; rcases ha with rfl <;> decide +kernel) (fun gh => x_X8_move_3 d) (by decide +kernel)
def q_X8_move_4 : List (Nat × Nat) := [(0, zk12), (259, zk8)]
noncomputable def al_X8_move_4 : zAq := [(some (.inl 2147483648), [(0, zk12), (259, zk8)])]
noncomputable def fm_X8_move_4 : List zFm := [(0, [], (fun vs => [.inr (.ref 0), .inl 9223372071214514175, .inl 8589934591]), (fun vs => zP q_X8_move_4), (fun vs => Nat.sub (Nat.add 0 0) 0))]
def bf_X8_move_4 : List Nat := []
theorem r_X8_move_4_0 : zbox [] (fun vs => zFrun (zpost (zAlq al_X8_move_4)) 1000 t_X8_move fm_X8_move_4 bf_X8_move_4 (0, vs)) = true := by decide +kernel
set_option maxRecDepth 100000 in
theorem x_X8_move_4 (d : Nat) : zS l G gh (d + 3) (zpost (zAlq al_X8_move_4)) n_X8_move (zn 0 p_X8_move 0) (zwc (0, [.inr (.ref 0), .inl 9223372071214514175, .inl 8589934591], zP q_X8_move_4) 0) := zentry (tt_X8_move d) fm_X8_move_4 bf_X8_move_4 1000 (by decide +kernel) rfl ⟨Nat.zero_lt_succ _, trivial⟩ (fun f hf => match f, hf with
  | 0, _ => fun vs hv => (zbox_t r_X8_move_4_0) vs hv
  | f + 1, h => absurd (show f + 1 < 1 from h) (Nat.not_lt.mpr (Nat.le_add_left 1 f)))
noncomputable def gs_X8_move_4 : zMt := zgq false [] 3 [.inr (.ref 0), .inl 9223372071214514175, .inl 8589934591] q_X8_move_4 al_X8_move_4
set_option maxRecDepth 100000 in
theorem cs_X8_move_4 (d : Nat) : zC l G gh (d + 3) n_X8_move gs_X8_move_4 := zgq_ok0 (pcs := p_X8_move) (by decide) rfl rfl (fun a ha => by simp only [al_X8_move_4, List.mem_cons, List.not_mem_nil, or_false] at ha; rcases ha with rfl <;> decide +kernel) (fun gh => x_X8_move_4 d) (by decide +kernel)
def q_X8_move_5 : List (Nat × Nat) := [(0, zk13), (9, zk6), (21, zk22), (22, zk10), (23, zk10), (24, zk10), (25, zk10), (26, zk23), (27, zk23), (35, zk35), (36, zk36), (37, zk37), (38, zk10), (39, zk10), (40, zk10), (41, zk10), (42, zk23), (43, zk23), (44, zk38), (45, zk10), (46, zk10), (47, zk10), (48, zk10), (49, zk23), (50, zk23), (51, zk39), (52, zk10), (53, zk10), (54, zk10), (55, zk10), (56, zk23), (57, zk23), (58, zk40), (59, zk10), (60, zk10), (61, zk10), (62, zk10), (63, zk23), (64, zk23), (65, zk41), (66, zk10), (67, zk10), (68, zk10), (69, zk10), (70, zk23), (71, zk23), (72, zk42), (73, zk10), (74, zk10), (75, zk10), (76, zk10), (77, zk23), (78, zk23), (79, zk43), (80, zk10), (81, zk10), (82, zk10), (83, zk10), (84, zk23), (85, zk23), (86, zk44), (87, zk10), (88, zk10), (89, zk10), (90, zk10), (91, zk23), (92, zk23), (93, zk45), (94, zk10), (95, zk10), (96, zk10), (97, zk10), (98, zk23), (99, zk23), (100, zk46), (101, zk10), (102, zk10), (103, zk10), (104, zk10), (105, zk23), (106, zk23), (107, zk47), (108, zk10), (109, zk10), (110, zk10), (111, zk10), (112, zk23), (113, zk23), (114, zk48), (115, zk10), (116, zk10), (117, zk10), (118, zk10), (119, zk23), (120, zk23), (121, zk49), (122, zk10), (123, zk10), (124, zk10), (125, zk10), (126, zk23), (127, zk23), (128, zk50), (129, zk10), (130, zk10), (131, zk10), (132, zk10), (133, zk23), (134, zk23), (135, zk51), (136, zk10), (137, zk10), (138, zk10), (139, zk10), (140, zk23), (141, zk23), (142, zk52), (143, zk10), (144, zk10), (145, zk10), (146, zk10), (147, zk23), (148, zk23), (149, zk53), (150, zk10), (151, zk10), (152, zk10), (153, zk10), (154, zk23), (155, zk23), (156, zk54), (157, zk10), (158, zk10), (159, zk10), (160, zk10), (161, zk23), (162, zk23), (163, zk55), (164, zk10), (165, zk10), (166, zk10), (167, zk10), (168, zk23), (169, zk23), (170, zk56), (171, zk10), (172, zk10), (173, zk10), (174, zk10), (175, zk23), (176, zk23), (177, zk57), (178, zk10), (179, zk10), (180, zk10), (181, zk10), (182, zk23), (183, zk23), (184, zk58), (185, zk10), (186, zk10), (187, zk10), (188, zk10), (189, zk23), (190, zk23), (191, zk59), (192, zk10), (193, zk10), (194, zk10), (195, zk10), (196, zk23), (197, zk23), (198, zk60), (199, zk10), (200, zk10), (201, zk10), (202, zk10), (203, zk23), (204, zk23), (205, zk61), (206, zk10), (207, zk10), (208, zk10), (209, zk10), (210, zk23), (211, zk23), (212, zk62), (213, zk10), (214, zk10), (215, zk10), (216, zk10), (217, zk23), (218, zk23), (219, zk63), (220, zk10), (221, zk10), (222, zk10), (223, zk10), (224, zk23), (225, zk23), (226, zk64), (227, zk10), (228, zk10), (229, zk10), (230, zk10), (231, zk23), (232, zk23), (233, zk65), (234, zk10), (235, zk10), (236, zk10), (237, zk10), (238, zk23), (239, zk23), (240, zk66), (241, zk10), (242, zk10), (243, zk10), (244, zk10), (245, zk23), (246, zk23)]
noncomputable def al_X8_move_5 : zAq := [(some (.inl 9223372043297226753), [(0, zk13), (9, zk6), (21, zk22), (22, zk11), (23, zk10), (24, zk10), (25, zk10), (26, zk23), (27, zk23), (35, zk67), (36, zk36), (37, zk68), (38, zk11), (39, zk11), (40, zk11), (41, zk11), (42, zk31), (43, zk31), (44, zk69), (45, zk11), (46, zk11), (47, zk11), (48, zk11), (49, zk31), (50, zk31), (51, zk70), (52, zk11), (53, zk11), (54, zk11), (55, zk11), (56, zk31), (57, zk31), (58, zk71), (59, zk11), (60, zk11), (61, zk11), (62, zk11), (63, zk31), (64, zk31), (65, zk72), (66, zk11), (67, zk11), (68, zk11), (69, zk11), (70, zk31), (71, zk31), (72, zk73), (73, zk11), (74, zk11), (75, zk11), (76, zk11), (77, zk31), (78, zk31), (79, zk74), (80, zk11), (81, zk11), (82, zk11), (83, zk11), (84, zk31), (85, zk31), (86, zk75), (87, zk11), (88, zk11), (89, zk11), (90, zk11), (91, zk31), (92, zk31), (93, zk76), (94, zk11), (95, zk11), (96, zk11), (97, zk11), (98, zk31), (99, zk31), (100, zk77), (101, zk11), (102, zk11), (103, zk11), (104, zk11), (105, zk31), (106, zk31), (107, zk78), (108, zk11), (109, zk11), (110, zk11), (111, zk11), (112, zk31), (113, zk31), (114, zk79), (115, zk11), (116, zk11), (117, zk11), (118, zk11), (119, zk31), (120, zk31), (121, zk80), (122, zk11), (123, zk11), (124, zk11), (125, zk11), (126, zk31), (127, zk31), (128, zk81), (129, zk11), (130, zk11), (131, zk11), (132, zk11), (133, zk31), (134, zk31), (135, zk82), (136, zk11), (137, zk11), (138, zk11), (139, zk11), (140, zk31), (141, zk31), (142, zk83), (143, zk11), (144, zk11), (145, zk11), (146, zk11), (147, zk31), (148, zk31), (149, zk84), (150, zk11), (151, zk11), (152, zk11), (153, zk11), (154, zk31), (155, zk31), (156, zk85), (157, zk11), (158, zk11), (159, zk11), (160, zk11), (161, zk31), (162, zk31), (163, zk86), (164, zk11), (165, zk11), (166, zk11), (167, zk11), (168, zk31), (169, zk31), (170, zk87), (171, zk11), (172, zk11), (173, zk11), (174, zk11), (175, zk31), (176, zk31), (177, zk88), (178, zk11), (179, zk11), (180, zk11), (181, zk11), (182, zk31), (183, zk31), (184, zk89), (185, zk11), (186, zk11), (187, zk11), (188, zk11), (189, zk31), (190, zk31), (191, zk90), (192, zk11), (193, zk11), (194, zk11), (195, zk11), (196, zk31), (197, zk31), (198, zk91), (199, zk11), (200, zk11), (201, zk11), (202, zk11), (203, zk31), (204, zk31), (205, zk92), (206, zk11), (207, zk11), (208, zk11), (209, zk11), (210, zk31), (211, zk31), (212, zk93), (213, zk11), (214, zk11), (215, zk11), (216, zk11), (217, zk31), (218, zk31), (219, zk94), (220, zk11), (221, zk11), (222, zk11), (223, zk11), (224, zk31), (225, zk31), (226, zk95), (227, zk11), (228, zk11), (229, zk11), (230, zk11), (231, zk31), (232, zk31), (233, zk96), (234, zk11), (235, zk11), (236, zk11), (237, zk11), (238, zk31), (239, zk31), (240, zk97), (241, zk11), (242, zk11), (243, zk11), (244, zk11), (245, zk31), (246, zk31)])]
noncomputable def fm_X8_move_5 : List zFm := [(0, [], (fun vs => [.inr (.ref 0), .inl 9223372043297226757, .inl 9223372043297226771]), (fun vs => zP q_X8_move_5), (fun vs => Nat.sub (Nat.add 0 0) 0))]
def bf_X8_move_5 : List Nat := []
theorem r_X8_move_5_0 : zbox [] (fun vs => zFrun (zpost (zAlq al_X8_move_5)) 1000 t_X8_move fm_X8_move_5 bf_X8_move_5 (0, vs)) = true := by decide +kernel
set_option maxRecDepth 100000 in
theorem x_X8_move_5 (d : Nat) : zS l G gh (d + 3) (zpost (zAlq al_X8_move_5)) n_X8_move (zn 0 p_X8_move 0) (zwc (0, [.inr (.ref 0), .inl 9223372043297226757, .inl 9223372043297226771], zP q_X8_move_5) 0) := zentry (tt_X8_move d) fm_X8_move_5 bf_X8_move_5 1000 (by decide +kernel) rfl ⟨Nat.zero_lt_succ _, trivial⟩ (fun f hf => match f, hf with
  | 0, _ => fun vs hv => (zbox_t r_X8_move_5_0) vs hv
  | f + 1, h => absurd (show f + 1 < 1 from h) (Nat.not_lt.mpr (Nat.le_add_left 1 f)))
noncomputable def gs_X8_move_5 : zMt := zgq false [] 3 [.inr (.ref 0), .inl 9223372043297226757, .inl 9223372043297226771] q_X8_move_5 al_X8_move_5
set_option maxRecDepth 100000 in
theorem cs_X8_move_5 (d : Nat) : zC l G gh (d + 3) n_X8_move gs_X8_move_5 := zgq_ok0 (pcs := p_X8_move) (by decide) rfl rfl (fun a ha => by simp only [al_X8_move_5, List.mem_cons, List.not_mem_nil, or_false] at ha; rcases ha with rfl <;> decide +kernel) (fun gh => x_X8_move_5 d) (by decide +kernel)
def q_X8_move_6 : List (Nat × Nat) := [(0, zk13), (9, zk6)]
noncomputable def al_X8_move_6 : zAq := [(some (.inl 2147483648), [(0, zk13), (9, zk6)])]
noncomputable def fm_X8_move_6 : List zFm := [(0, [], (fun vs => [.inr (.ref 0), .inl 9223372043297226757, .inl 6442450943]), (fun vs => zP q_X8_move_6), (fun vs => Nat.sub (Nat.add 0 0) 0))]
def bf_X8_move_6 : List Nat := []
theorem r_X8_move_6_0 : zbox [] (fun vs => zFrun (zpost (zAlq al_X8_move_6)) 1000 t_X8_move fm_X8_move_6 bf_X8_move_6 (0, vs)) = true := by decide +kernel
set_option maxRecDepth 100000 in
theorem x_X8_move_6 (d : Nat) : zS l G gh (d + 3) (zpost (zAlq al_X8_move_6)) n_X8_move (zn 0 p_X8_move 0) (zwc (0, [.inr (.ref 0), .inl 9223372043297226757, .inl 6442450943], zP q_X8_move_6) 0) := zentry (tt_X8_move d) fm_X8_move_6 bf_X8_move_6 1000 (by decide +kernel) rfl ⟨Nat.zero_lt_succ _, trivial⟩ (fun f hf => match f, hf with
  | 0, _ => fun vs hv => (zbox_t r_X8_move_6_0) vs hv
  | f + 1, h => absurd (show f + 1 < 1 from h) (Nat.not_lt.mpr (Nat.le_add_left 1 f)))
noncomputable def gs_X8_move_6 : zMt := zgq false [] 3 [.inr (.ref 0), .inl 9223372043297226757, .inl 6442450943] q_X8_move_6 al_X8_move_6
set_option maxRecDepth 100000 in
theorem cs_X8_move_6 (d : Nat) : zC l G gh (d + 3) n_X8_move gs_X8_move_6 := zgq_ok0 (pcs := p_X8_move) (by decide) rfl rfl (fun a ha => by simp only [al_X8_move_6, List.mem_cons, List.not_mem_nil, or_false] at ha; rcases ha with rfl <;> decide +kernel) (fun gh => x_X8_move_6 d) (by decide +kernel)
def q_X8_move_7 : List (Nat × Nat) := [(0, zk13), (9, zk6)]
noncomputable def al_X8_move_7 : zAq := [(some (.inl 2147483648), [(0, zk13), (9, zk6)])]
noncomputable def fm_X8_move_7 : List zFm := [(0, [], (fun vs => [.inr (.ref 0), .inl 9223372043297226757, .inl 9223372131344056319]), (fun vs => zP q_X8_move_7), (fun vs => Nat.sub (Nat.add 0 0) 0))]
def bf_X8_move_7 : List Nat := []
theorem r_X8_move_7_0 : zbox [] (fun vs => zFrun (zpost (zAlq al_X8_move_7)) 1000 t_X8_move fm_X8_move_7 bf_X8_move_7 (0, vs)) = true := by decide +kernel
set_option maxRecDepth 100000 in
theorem x_X8_move_7 (d : Nat) : zS l G gh (d + 3) (zpost (zAlq al_X8_move_7)) n_X8_move (zn 0 p_X8_move 0) (zwc (0, [.inr (.ref 0), .inl 9223372043297226757, .inl 9223372131344056319], zP q_X8_move_7) 0) := zentry (tt_X8_move d) fm_X8_move_7 bf_X8_move_7 1000 (by decide +kernel) rfl ⟨Nat.zero_lt_succ _, trivial⟩ (fun f hf => match f, hf with
  | 0, _ => fun vs hv => (zbox_t r_X8_move_7_0) vs hv
  | f + 1, h => absurd (show f + 1 < 1 from h) (Nat.not_lt.mpr (Nat.le_add_left 1 f)))
noncomputable def gs_X8_move_7 : zMt := zgq false [] 3 [.inr (.ref 0), .inl 9223372043297226757, .inl 9223372131344056319] q_X8_move_7 al_X8_move_7
set_option maxRecDepth 100000 in
theorem cs_X8_move_7 (d : Nat) : zC l G gh (d + 3) n_X8_move gs_X8_move_7 := zgq_ok0 (pcs := p_X8_move) (by decide) rfl rfl (fun a ha => by simp only [al_X8_move_7, List.mem_cons, List.not_mem_nil, or_false] at ha; rcases ha with rfl <;> decide +kernel) (fun gh => x_X8_move_7 d) (by decide +kernel)
def q_X8_move_8 : List (Nat × Nat) := [(0, zk13)]
noncomputable def al_X8_move_8 : zAq := [(some (.inl 2147483648), [(0, zk13)])]
noncomputable def fm_X8_move_8 : List zFm := [(0, [], (fun vs => [.inr (.ref 0), .inl 6442450943, .inl 8589934591]), (fun vs => zP q_X8_move_8), (fun vs => Nat.sub (Nat.add 0 0) 0))]
def bf_X8_move_8 : List Nat := []
theorem r_X8_move_8_0 : zbox [] (fun vs => zFrun (zpost (zAlq al_X8_move_8)) 1000 t_X8_move fm_X8_move_8 bf_X8_move_8 (0, vs)) = true := by decide +kernel
set_option maxRecDepth 100000 in
theorem x_X8_move_8 (d : Nat) : zS l G gh (d + 3) (zpost (zAlq al_X8_move_8)) n_X8_move (zn 0 p_X8_move 0) (zwc (0, [.inr (.ref 0), .inl 6442450943, .inl 8589934591], zP q_X8_move_8) 0) := zentry (tt_X8_move d) fm_X8_move_8 bf_X8_move_8 1000 (by decide +kernel) rfl ⟨Nat.zero_lt_succ _, trivial⟩ (fun f hf => match f, hf with
  | 0, _ => fun vs hv => (zbox_t r_X8_move_8_0) vs hv
  | f + 1, h => absurd (show f + 1 < 1 from h) (Nat.not_lt.mpr (Nat.le_add_left 1 f)))
noncomputable def gs_X8_move_8 : zMt := zgq false [] 3 [.inr (.ref 0), .inl 6442450943, .inl 8589934591] q_X8_move_8 al_X8_move_8
set_option maxRecDepth 100000 in
theorem cs_X8_move_8 (d : Nat) : zC l G gh (d + 3) n_X8_move gs_X8_move_8 := zgq_ok0 (pcs := p_X8_move) (by decide) rfl rfl (fun a ha => by simp only [al_X8_move_8, List.mem_cons, List.not_mem_nil, or_false] at ha; rcases ha with rfl <;> decide +kernel) (fun gh => x_X8_move_8 d) (by decide +kernel)
def q_X8_move_9 : List (Nat × Nat) := [(0, zk13), (9, zk6)]
noncomputable def al_X8_move_9 : zAq := [(some (.inl 2147483648), [(0, zk13), (9, zk6)])]
noncomputable def fm_X8_move_9 : List zFm := [(0, [], (fun vs => [.inr (.ref 0), .inl 9223372071214514175, .inl 8589934591]), (fun vs => zP q_X8_move_9), (fun vs => Nat.sub (Nat.add 0 0) 0))]
def bf_X8_move_9 : List Nat := []
theorem r_X8_move_9_0 : zbox [] (fun vs => zFrun (zpost (zAlq al_X8_move_9)) 1000 t_X8_move fm_X8_move_9 bf_X8_move_9 (0, vs)) = true := by decide +kernel
set_option maxRecDepth 100000 in
theorem x_X8_move_9 (d : Nat) : zS l G gh (d + 3) (zpost (zAlq al_X8_move_9)) n_X8_move (zn 0 p_X8_move 0) (zwc (0, [.inr (.ref 0), .inl 9223372071214514175, .inl 8589934591], zP q_X8_move_9) 0) := zentry (tt_X8_move d) fm_X8_move_9 bf_X8_move_9 1000 (by decide +kernel) rfl ⟨Nat.zero_lt_succ _, trivial⟩ (fun f hf => match f, hf with
  | 0, _ => fun vs hv => (zbox_t r_X8_move_9_0) vs hv
  | f + 1, h => absurd (show f + 1 < 1 from h) (Nat.not_lt.mpr (Nat.le_add_left 1 f)))
noncomputable def gs_X8_move_9 : zMt := zgq false [] 3 [.inr (.ref 0), .inl 9223372071214514175, .inl 8589934591] q_X8_move_9 al_X8_move_9
set_option maxRecDepth 100000 in
theorem cs_X8_move_9 (d : Nat) : zC l G gh (d + 3) n_X8_move gs_X8_move_9 := zgq_ok0 (pcs := p_X8_move) (by decide) rfl rfl (fun a ha => by simp only [al_X8_move_9, List.mem_cons, List.not_mem_nil, or_false] at ha; rcases ha with rfl <;> decide +kernel) (fun gh => x_X8_move_9 d) (by decide +kernel)
noncomputable def gs_X8_move : zMt := (zor gs_X8_move_0 (zor gs_X8_move_1 (zor gs_X8_move_2 (zor gs_X8_move_3 (zor gs_X8_move_4 (zor gs_X8_move_5 (zor gs_X8_move_6 (zor gs_X8_move_7 (zor gs_X8_move_8 gs_X8_move_9)))))))))
theorem cs_X8_move (d : Nat) : zC l G gh (d + 3) n_X8_move gs_X8_move := (zor_ok (cs_X8_move_0 d) (zor_ok (cs_X8_move_1 d) (zor_ok (cs_X8_move_2 d) (zor_ok (cs_X8_move_3 d) (zor_ok (cs_X8_move_4 d) (zor_ok (cs_X8_move_5 d) (zor_ok (cs_X8_move_6 d) (zor_ok (cs_X8_move_7 d) (zor_ok (cs_X8_move_8 d) (cs_X8_move_9 d))))))))))
def n_X0_isWind : qMn := (yX0_isWind, cX0_isWind, 3, (some Jvm.ClassFile.FieldType.boolean), 0, 0)
theorem to_X0_isWind : qTo n_X0_isWind 3 := ⟨g872, g105, ⟨by decide, by decide, by decide +kernel⟩, by decide⟩
def p_X0_isWind : List Nat := [0, 11, 15, 16]
noncomputable def b_X0_isWind_0 : zBl := fun jp K => oIld 1 <| oInt 2147483652 <| oIld 0 <| oB2 zimul <| oCs 2 f_X0_lot <| oIld 2 <| oIc zge zlt (jp 2) (jp 1)
theorem s_X0_isWind_0 (d : Nat) : zPb l G gh (d + 3) n_X0_isWind p_X0_isWind 0 b_X0_isWind_0 := fun K jp hj =>
    z_iload_n (n := 1) (i := 1) (zd (i := .iload_n 1) (n := 1) (by decide +kernel)) rfl <|
    z_iconst (n := 4) (zd (i := .iconst (4)) (n := 1) (by decide +kernel)) (by decide +kernel) <|
    z_iload_n (n := 0) (i := 0) (zd (i := .iload_n 0) (n := 1) (by decide +kernel)) rfl <|
    z_imul (zd (i := .imul) (n := 1) (by decide +kernel)) <|
    z_callS (idx := 87) (N := n_X0_lot) (zd (i := .invokestatic 87) (n := 3) (by decide +kernel)) to_X0_lot g873 g874 rfl rfl (c_X0_lot (l := l) (G := G) (gh := gh) (d)) <|
    z_iload_n (n := 2) (i := 2) (zd (i := .iload_n 2) (n := 1) (by decide +kernel)) rfl <|
    z_icmp_ge (off := 7) (tgt := 15) (zd (i := .if_icmp .ge (7)) (n := 3) (by decide +kernel)) (by decide +kernel) (zj (hj 2) (by decide +kernel)) (zj (hj 1) (by decide +kernel))
noncomputable def b_X0_isWind_1 : zBl := fun jp K => oInt 2147483649 <| jp 3
theorem s_X0_isWind_1 (d : Nat) : zPb l G gh (d + 3) n_X0_isWind p_X0_isWind 11 b_X0_isWind_1 := fun K jp hj =>
    z_iconst (n := 1) (zd (i := .iconst (1)) (n := 1) (by decide +kernel)) (by decide +kernel) <|
    z_goto (off := 4) (tgt := 16) (zd (i := .goto (4)) (n := 3) (by decide +kernel)) (by decide +kernel) (zj (hj 3) (by decide +kernel))
noncomputable def b_X0_isWind_2 : zBl := fun jp K => oInt 2147483648 <| jp 3
theorem s_X0_isWind_2 (d : Nat) : zPb l G gh (d + 3) n_X0_isWind p_X0_isWind 15 b_X0_isWind_2 := fun K jp hj =>
    z_iconst (n := 0) (zd (i := .iconst (0)) (n := 1) (by decide +kernel)) (by decide +kernel) <|
    (zj (hj 3) (by decide +kernel))
noncomputable def b_X0_isWind_3 : zBl := fun jp K => oZret K
theorem s_X0_isWind_3 (d : Nat) : zPb l G gh (d + 3) n_X0_isWind p_X0_isWind 16 b_X0_isWind_3 := fun K jp hj =>
    z_zret (zd (i := .ireturn) (n := 1) (by decide +kernel)) rfl
noncomputable def t_X0_isWind : List zBl := [b_X0_isWind_0, b_X0_isWind_1, b_X0_isWind_2, b_X0_isWind_3]
theorem tt_X0_isWind (d : Nat) : zT (zPb l G gh (d + 3) n_X0_isWind p_X0_isWind) t_X0_isWind p_X0_isWind := ⟨s_X0_isWind_0 d, s_X0_isWind_1 d, s_X0_isWind_2 d, s_X0_isWind_3 d, trivial⟩
noncomputable def f_X0_isWind : zMt := zmet 3 t_X0_isWind
theorem c_X0_isWind (d : Nat) : zC l G gh (d + 3) n_X0_isWind f_X0_isWind := zmet_ok (pcs := p_X0_isWind) (by decide) rfl rfl (tt_X0_isWind d)
def n_X8_undo : qMn := (yX8_undo, cX8_undo, 1, (some Jvm.ClassFile.FieldType.boolean), 0, 0)
theorem to_X8_undo : qTo n_X8_undo 0 := ⟨g892, g97, ⟨by decide, by decide, by decide +kernel⟩, by decide⟩
def p_X8_undo : List Nat := [0]
noncomputable def b_X8_undo_0 : zBl := fun jp K => oAld 0 <| oGetR 8 4 <| oAld 0 <| oGetR 8 2 <| oCv 3 1 gs_X3_pop <| oZret K
theorem s_X8_undo_0 (d : Nat) : zPb l G gh (d + 3) n_X8_undo p_X8_undo 0 b_X8_undo_0 := fun K jp hj =>
    z_aload_n (n := 0) (i := 0) (zd (i := .aload_n 0) (n := 1) (by decide +kernel)) rfl <|
    z_getR (ci := 8) (j := 4) (idx := 36) (zd (i := .getfield 36) (n := 3) (by decide +kernel)) (by decide +kernel) (by decide +kernel) rfl g456 <|
    z_aload_n (n := 0) (i := 0) (zd (i := .aload_n 0) (n := 1) (by decide +kernel)) rfl <|
    z_getR (ci := 8) (j := 2) (idx := 26) (zd (i := .getfield 26) (n := 3) (by decide +kernel)) (by decide +kernel) (by decide +kernel) rfl g454 <|
    z_callV (idx := 220) (ci := 3) (N := n_X3_pop) (zd (i := .invokevirtual 220) (n := 3) (by decide +kernel)) to_X3_pop g893 g894 g895 (by decide +kernel) rfl rfl rfl (cs_X3_pop (l := l) (G := G) (gh := gh) (d)) <|
    z_zret (zd (i := .ireturn) (n := 1) (by decide +kernel)) rfl
noncomputable def t_X8_undo : List zBl := [b_X8_undo_0]
theorem tt_X8_undo (d : Nat) : zT (zPb l G gh (d + 3) n_X8_undo p_X8_undo) t_X8_undo p_X8_undo := ⟨s_X8_undo_0 d, trivial⟩
def q_X8_undo_0 : List (Nat × Nat) := [(0, zk12), (21, zk22), (22, zk10), (23, zk10), (24, zk10), (25, zk10), (26, zk23), (27, zk23), (35, zk35), (36, zk36), (37, zk37), (38, zk10), (39, zk10), (40, zk10), (41, zk10), (42, zk23), (43, zk23), (44, zk38), (45, zk10), (46, zk10), (47, zk10), (48, zk10), (49, zk23), (50, zk23), (51, zk39), (52, zk10), (53, zk10), (54, zk10), (55, zk10), (56, zk23), (57, zk23), (58, zk40), (59, zk10), (60, zk10), (61, zk10), (62, zk10), (63, zk23), (64, zk23), (65, zk41), (66, zk10), (67, zk10), (68, zk10), (69, zk10), (70, zk23), (71, zk23), (72, zk42), (73, zk10), (74, zk10), (75, zk10), (76, zk10), (77, zk23), (78, zk23), (79, zk43), (80, zk10), (81, zk10), (82, zk10), (83, zk10), (84, zk23), (85, zk23), (86, zk44), (87, zk10), (88, zk10), (89, zk10), (90, zk10), (91, zk23), (92, zk23), (93, zk45), (94, zk10), (95, zk10), (96, zk10), (97, zk10), (98, zk23), (99, zk23), (100, zk46), (101, zk10), (102, zk10), (103, zk10), (104, zk10), (105, zk23), (106, zk23), (107, zk47), (108, zk10), (109, zk10), (110, zk10), (111, zk10), (112, zk23), (113, zk23), (114, zk48), (115, zk10), (116, zk10), (117, zk10), (118, zk10), (119, zk23), (120, zk23), (121, zk49), (122, zk10), (123, zk10), (124, zk10), (125, zk10), (126, zk23), (127, zk23), (128, zk50), (129, zk10), (130, zk10), (131, zk10), (132, zk10), (133, zk23), (134, zk23), (135, zk51), (136, zk10), (137, zk10), (138, zk10), (139, zk10), (140, zk23), (141, zk23), (142, zk52), (143, zk10), (144, zk10), (145, zk10), (146, zk10), (147, zk23), (148, zk23), (149, zk53), (150, zk10), (151, zk10), (152, zk10), (153, zk10), (154, zk23), (155, zk23), (156, zk54), (157, zk10), (158, zk10), (159, zk10), (160, zk10), (161, zk23), (162, zk23), (163, zk55), (164, zk10), (165, zk10), (166, zk10), (167, zk10), (168, zk23), (169, zk23), (170, zk56), (171, zk10), (172, zk10), (173, zk10), (174, zk10), (175, zk23), (176, zk23), (177, zk57), (178, zk10), (179, zk10), (180, zk10), (181, zk10), (182, zk23), (183, zk23), (184, zk58), (185, zk10), (186, zk10), (187, zk10), (188, zk10), (189, zk23), (190, zk23), (191, zk59), (192, zk10), (193, zk10), (194, zk10), (195, zk10), (196, zk23), (197, zk23), (198, zk60), (199, zk10), (200, zk10), (201, zk10), (202, zk10), (203, zk23), (204, zk23), (205, zk61), (206, zk10), (207, zk10), (208, zk10), (209, zk10), (210, zk23), (211, zk23), (212, zk62), (213, zk10), (214, zk10), (215, zk10), (216, zk10), (217, zk23), (218, zk23), (219, zk63), (220, zk10), (221, zk10), (222, zk10), (223, zk10), (224, zk23), (225, zk23), (226, zk64), (227, zk10), (228, zk10), (229, zk10), (230, zk10), (231, zk23), (232, zk23), (233, zk65), (234, zk10), (235, zk10), (236, zk10), (237, zk10), (238, zk23), (239, zk23), (240, zk66), (241, zk10), (242, zk10), (243, zk10), (244, zk10), (245, zk23), (246, zk23)]
noncomputable def al_X8_undo_0 : zAq := [(some (.inl 9223372043297226753), [(0, zk12), (21, zk98), (22, zk11), (23, zk11), (24, zk11), (25, zk11), (26, zk31), (27, zk31), (35, zk67), (36, zk36), (37, zk37), (38, zk10), (39, zk10), (40, zk10), (41, zk10), (42, zk23), (43, zk23), (44, zk38), (45, zk10), (46, zk10), (47, zk10), (48, zk10), (49, zk23), (50, zk23), (51, zk39), (52, zk10), (53, zk10), (54, zk10), (55, zk10), (56, zk23), (57, zk23), (58, zk40), (59, zk10), (60, zk10), (61, zk10), (62, zk10), (63, zk23), (64, zk23), (65, zk41), (66, zk10), (67, zk10), (68, zk10), (69, zk10), (70, zk23), (71, zk23), (72, zk42), (73, zk10), (74, zk10), (75, zk10), (76, zk10), (77, zk23), (78, zk23), (79, zk43), (80, zk10), (81, zk10), (82, zk10), (83, zk10), (84, zk23), (85, zk23), (86, zk44), (87, zk10), (88, zk10), (89, zk10), (90, zk10), (91, zk23), (92, zk23), (93, zk45), (94, zk10), (95, zk10), (96, zk10), (97, zk10), (98, zk23), (99, zk23), (100, zk46), (101, zk10), (102, zk10), (103, zk10), (104, zk10), (105, zk23), (106, zk23), (107, zk47), (108, zk10), (109, zk10), (110, zk10), (111, zk10), (112, zk23), (113, zk23), (114, zk48), (115, zk10), (116, zk10), (117, zk10), (118, zk10), (119, zk23), (120, zk23), (121, zk49), (122, zk10), (123, zk10), (124, zk10), (125, zk10), (126, zk23), (127, zk23), (128, zk50), (129, zk10), (130, zk10), (131, zk10), (132, zk10), (133, zk23), (134, zk23), (135, zk51), (136, zk10), (137, zk10), (138, zk10), (139, zk10), (140, zk23), (141, zk23), (142, zk52), (143, zk10), (144, zk10), (145, zk10), (146, zk10), (147, zk23), (148, zk23), (149, zk53), (150, zk10), (151, zk10), (152, zk10), (153, zk10), (154, zk23), (155, zk23), (156, zk54), (157, zk10), (158, zk10), (159, zk10), (160, zk10), (161, zk23), (162, zk23), (163, zk55), (164, zk10), (165, zk10), (166, zk10), (167, zk10), (168, zk23), (169, zk23), (170, zk56), (171, zk10), (172, zk10), (173, zk10), (174, zk10), (175, zk23), (176, zk23), (177, zk57), (178, zk10), (179, zk10), (180, zk10), (181, zk10), (182, zk23), (183, zk23), (184, zk58), (185, zk10), (186, zk10), (187, zk10), (188, zk10), (189, zk23), (190, zk23), (191, zk59), (192, zk10), (193, zk10), (194, zk10), (195, zk10), (196, zk23), (197, zk23), (198, zk60), (199, zk10), (200, zk10), (201, zk10), (202, zk10), (203, zk23), (204, zk23), (205, zk61), (206, zk10), (207, zk10), (208, zk10), (209, zk10), (210, zk23), (211, zk23), (212, zk62), (213, zk10), (214, zk10), (215, zk10), (216, zk10), (217, zk23), (218, zk23), (219, zk63), (220, zk10), (221, zk10), (222, zk10), (223, zk10), (224, zk23), (225, zk23), (226, zk64), (227, zk10), (228, zk10), (229, zk10), (230, zk10), (231, zk23), (232, zk23), (233, zk65), (234, zk10), (235, zk10), (236, zk10), (237, zk10), (238, zk23), (239, zk23), (240, zk66), (241, zk10), (242, zk10), (243, zk10), (244, zk10), (245, zk23), (246, zk23)])]
noncomputable def fm_X8_undo_0 : List zFm := [(0, [], (fun vs => [.inr (.ref 0)]), (fun vs => zP q_X8_undo_0), (fun vs => Nat.sub (Nat.add 0 0) 0))]
def bf_X8_undo_0 : List Nat := []
theorem r_X8_undo_0_0 : zbox [] (fun vs => zFrun (zpost (zAlq al_X8_undo_0)) 1000 t_X8_undo fm_X8_undo_0 bf_X8_undo_0 (0, vs)) = true := by decide +kernel
set_option maxRecDepth 100000 in
theorem x_X8_undo_0 (d : Nat) : zS l G gh (d + 3) (zpost (zAlq al_X8_undo_0)) n_X8_undo (zn 0 p_X8_undo 0) (zwc (0, [.inr (.ref 0)], zP q_X8_undo_0) 0) := zentry (tt_X8_undo d) fm_X8_undo_0 bf_X8_undo_0 1000 (by decide +kernel) rfl ⟨Nat.zero_lt_succ _, trivial⟩ (fun f hf => match f, hf with
  | 0, _ => fun vs hv => (zbox_t r_X8_undo_0_0) vs hv
  | f + 1, h => absurd (show f + 1 < 1 from h) (Nat.not_lt.mpr (Nat.le_add_left 1 f)))
noncomputable def gs_X8_undo_0 : zMt := zgq false [] 1 [.inr (.ref 0)] q_X8_undo_0 al_X8_undo_0
set_option maxRecDepth 100000 in
theorem cs_X8_undo_0 (d : Nat) : zC l G gh (d + 3) n_X8_undo gs_X8_undo_0 := zgq_ok0 (pcs := p_X8_undo) (by decide) rfl rfl (fun a ha => by simp only [al_X8_undo_0, List.mem_cons, List.not_mem_nil, or_false] at ha; rcases ha with rfl <;> decide +kernel) (fun gh => x_X8_undo_0 d) (by decide +kernel)
def q_X8_undo_1 : List (Nat × Nat) := [(0, zk13), (21, zk22), (22, zk10), (23, zk10), (24, zk10), (25, zk10), (26, zk23), (27, zk23), (35, zk35), (36, zk36), (37, zk37), (38, zk10), (39, zk10), (40, zk10), (41, zk10), (42, zk23), (43, zk23), (44, zk38), (45, zk10), (46, zk10), (47, zk10), (48, zk10), (49, zk23), (50, zk23), (51, zk39), (52, zk10), (53, zk10), (54, zk10), (55, zk10), (56, zk23), (57, zk23), (58, zk40), (59, zk10), (60, zk10), (61, zk10), (62, zk10), (63, zk23), (64, zk23), (65, zk41), (66, zk10), (67, zk10), (68, zk10), (69, zk10), (70, zk23), (71, zk23), (72, zk42), (73, zk10), (74, zk10), (75, zk10), (76, zk10), (77, zk23), (78, zk23), (79, zk43), (80, zk10), (81, zk10), (82, zk10), (83, zk10), (84, zk23), (85, zk23), (86, zk44), (87, zk10), (88, zk10), (89, zk10), (90, zk10), (91, zk23), (92, zk23), (93, zk45), (94, zk10), (95, zk10), (96, zk10), (97, zk10), (98, zk23), (99, zk23), (100, zk46), (101, zk10), (102, zk10), (103, zk10), (104, zk10), (105, zk23), (106, zk23), (107, zk47), (108, zk10), (109, zk10), (110, zk10), (111, zk10), (112, zk23), (113, zk23), (114, zk48), (115, zk10), (116, zk10), (117, zk10), (118, zk10), (119, zk23), (120, zk23), (121, zk49), (122, zk10), (123, zk10), (124, zk10), (125, zk10), (126, zk23), (127, zk23), (128, zk50), (129, zk10), (130, zk10), (131, zk10), (132, zk10), (133, zk23), (134, zk23), (135, zk51), (136, zk10), (137, zk10), (138, zk10), (139, zk10), (140, zk23), (141, zk23), (142, zk52), (143, zk10), (144, zk10), (145, zk10), (146, zk10), (147, zk23), (148, zk23), (149, zk53), (150, zk10), (151, zk10), (152, zk10), (153, zk10), (154, zk23), (155, zk23), (156, zk54), (157, zk10), (158, zk10), (159, zk10), (160, zk10), (161, zk23), (162, zk23), (163, zk55), (164, zk10), (165, zk10), (166, zk10), (167, zk10), (168, zk23), (169, zk23), (170, zk56), (171, zk10), (172, zk10), (173, zk10), (174, zk10), (175, zk23), (176, zk23), (177, zk57), (178, zk10), (179, zk10), (180, zk10), (181, zk10), (182, zk23), (183, zk23), (184, zk58), (185, zk10), (186, zk10), (187, zk10), (188, zk10), (189, zk23), (190, zk23), (191, zk59), (192, zk10), (193, zk10), (194, zk10), (195, zk10), (196, zk23), (197, zk23), (198, zk60), (199, zk10), (200, zk10), (201, zk10), (202, zk10), (203, zk23), (204, zk23), (205, zk61), (206, zk10), (207, zk10), (208, zk10), (209, zk10), (210, zk23), (211, zk23), (212, zk62), (213, zk10), (214, zk10), (215, zk10), (216, zk10), (217, zk23), (218, zk23), (219, zk63), (220, zk10), (221, zk10), (222, zk10), (223, zk10), (224, zk23), (225, zk23), (226, zk64), (227, zk10), (228, zk10), (229, zk10), (230, zk10), (231, zk23), (232, zk23), (233, zk65), (234, zk10), (235, zk10), (236, zk10), (237, zk10), (238, zk23), (239, zk23), (240, zk66), (241, zk10), (242, zk10), (243, zk10), (244, zk10), (245, zk23), (246, zk23)]
noncomputable def al_X8_undo_1 : zAq := [(some (.inl 9223372043297226753), [(0, zk13), (21, zk98), (22, zk11), (23, zk11), (24, zk11), (25, zk11), (26, zk31), (27, zk31), (35, zk67), (36, zk36), (37, zk37), (38, zk10), (39, zk10), (40, zk10), (41, zk10), (42, zk23), (43, zk23), (44, zk38), (45, zk10), (46, zk10), (47, zk10), (48, zk10), (49, zk23), (50, zk23), (51, zk39), (52, zk10), (53, zk10), (54, zk10), (55, zk10), (56, zk23), (57, zk23), (58, zk40), (59, zk10), (60, zk10), (61, zk10), (62, zk10), (63, zk23), (64, zk23), (65, zk41), (66, zk10), (67, zk10), (68, zk10), (69, zk10), (70, zk23), (71, zk23), (72, zk42), (73, zk10), (74, zk10), (75, zk10), (76, zk10), (77, zk23), (78, zk23), (79, zk43), (80, zk10), (81, zk10), (82, zk10), (83, zk10), (84, zk23), (85, zk23), (86, zk44), (87, zk10), (88, zk10), (89, zk10), (90, zk10), (91, zk23), (92, zk23), (93, zk45), (94, zk10), (95, zk10), (96, zk10), (97, zk10), (98, zk23), (99, zk23), (100, zk46), (101, zk10), (102, zk10), (103, zk10), (104, zk10), (105, zk23), (106, zk23), (107, zk47), (108, zk10), (109, zk10), (110, zk10), (111, zk10), (112, zk23), (113, zk23), (114, zk48), (115, zk10), (116, zk10), (117, zk10), (118, zk10), (119, zk23), (120, zk23), (121, zk49), (122, zk10), (123, zk10), (124, zk10), (125, zk10), (126, zk23), (127, zk23), (128, zk50), (129, zk10), (130, zk10), (131, zk10), (132, zk10), (133, zk23), (134, zk23), (135, zk51), (136, zk10), (137, zk10), (138, zk10), (139, zk10), (140, zk23), (141, zk23), (142, zk52), (143, zk10), (144, zk10), (145, zk10), (146, zk10), (147, zk23), (148, zk23), (149, zk53), (150, zk10), (151, zk10), (152, zk10), (153, zk10), (154, zk23), (155, zk23), (156, zk54), (157, zk10), (158, zk10), (159, zk10), (160, zk10), (161, zk23), (162, zk23), (163, zk55), (164, zk10), (165, zk10), (166, zk10), (167, zk10), (168, zk23), (169, zk23), (170, zk56), (171, zk10), (172, zk10), (173, zk10), (174, zk10), (175, zk23), (176, zk23), (177, zk57), (178, zk10), (179, zk10), (180, zk10), (181, zk10), (182, zk23), (183, zk23), (184, zk58), (185, zk10), (186, zk10), (187, zk10), (188, zk10), (189, zk23), (190, zk23), (191, zk59), (192, zk10), (193, zk10), (194, zk10), (195, zk10), (196, zk23), (197, zk23), (198, zk60), (199, zk10), (200, zk10), (201, zk10), (202, zk10), (203, zk23), (204, zk23), (205, zk61), (206, zk10), (207, zk10), (208, zk10), (209, zk10), (210, zk23), (211, zk23), (212, zk62), (213, zk10), (214, zk10), (215, zk10), (216, zk10), (217, zk23), (218, zk23), (219, zk63), (220, zk10), (221, zk10), (222, zk10), (223, zk10), (224, zk23), (225, zk23), (226, zk64), (227, zk10), (228, zk10), (229, zk10), (230, zk10), (231, zk23), (232, zk23), (233, zk65), (234, zk10), (235, zk10), (236, zk10), (237, zk10), (238, zk23), (239, zk23), (240, zk66), (241, zk10), (242, zk10), (243, zk10), (244, zk10), (245, zk23), (246, zk23)])]
noncomputable def fm_X8_undo_1 : List zFm := [(0, [], (fun vs => [.inr (.ref 0)]), (fun vs => zP q_X8_undo_1), (fun vs => Nat.sub (Nat.add 0 0) 0))]
def bf_X8_undo_1 : List Nat := []
theorem r_X8_undo_1_0 : zbox [] (fun vs => zFrun (zpost (zAlq al_X8_undo_1)) 1000 t_X8_undo fm_X8_undo_1 bf_X8_undo_1 (0, vs)) = true := by decide +kernel
set_option maxRecDepth 100000 in
theorem x_X8_undo_1 (d : Nat) : zS l G gh (d + 3) (zpost (zAlq al_X8_undo_1)) n_X8_undo (zn 0 p_X8_undo 0) (zwc (0, [.inr (.ref 0)], zP q_X8_undo_1) 0) := zentry (tt_X8_undo d) fm_X8_undo_1 bf_X8_undo_1 1000 (by decide +kernel) rfl ⟨Nat.zero_lt_succ _, trivial⟩ (fun f hf => match f, hf with
  | 0, _ => fun vs hv => (zbox_t r_X8_undo_1_0) vs hv
  | f + 1, h => absurd (show f + 1 < 1 from h) (Nat.not_lt.mpr (Nat.le_add_left 1 f)))
noncomputable def gs_X8_undo_1 : zMt := zgq false [] 1 [.inr (.ref 0)] q_X8_undo_1 al_X8_undo_1
set_option maxRecDepth 100000 in
theorem cs_X8_undo_1 (d : Nat) : zC l G gh (d + 3) n_X8_undo gs_X8_undo_1 := zgq_ok0 (pcs := p_X8_undo) (by decide) rfl rfl (fun a ha => by simp only [al_X8_undo_1, List.mem_cons, List.not_mem_nil, or_false] at ha; rcases ha with rfl <;> decide +kernel) (fun gh => x_X8_undo_1 d) (by decide +kernel)
noncomputable def gs_X8_undo : zMt := (zor gs_X8_undo_0 gs_X8_undo_1)
theorem cs_X8_undo (d : Nat) : zC l G gh (d + 3) n_X8_undo gs_X8_undo := (zor_ok (cs_X8_undo_0 d) (cs_X8_undo_1 d))
def n_X4_wealth : qMn := (yX4_wealth, cX4_wealth, 2, (some Jvm.ClassFile.FieldType.int), 0, 0)
theorem to_X4_wealth : qTo n_X4_wealth 1 := ⟨g960, g107, ⟨by decide, by decide, by decide +kernel⟩, by decide⟩
def p_X4_wealth : List Nat := [0]
noncomputable def b_X4_wealth_0 : zBl := fun jp K => oAld 0 <| oGetR 4 2 <| oIld 1 <| oXald 10 <| oAld 0 <| oIld 1 <| oCv 4 1 gs_X4_lentBy <| oB2 zadd <| oIret K
theorem s_X4_wealth_0 (d : Nat) : zPb l G gh (d + 3) n_X4_wealth p_X4_wealth 0 b_X4_wealth_0 := fun K jp hj =>
    z_aload_n (n := 0) (i := 0) (zd (i := .aload_n 0) (n := 1) (by decide +kernel)) rfl <|
    z_getR (ci := 4) (j := 2) (idx := 19) (zd (i := .getfield 19) (n := 3) (by decide +kernel)) (by decide +kernel) (by decide +kernel) rfl g373 <|
    z_iload_n (n := 1) (i := 1) (zd (i := .iload_n 1) (n := 1) (by decide +kernel)) rfl <|
    z_iald (zd (i := .iaload) (n := 1) (by decide +kernel)) <|
    z_aload_n (n := 0) (i := 0) (zd (i := .aload_n 0) (n := 1) (by decide +kernel)) rfl <|
    z_iload_n (n := 1) (i := 1) (zd (i := .iload_n 1) (n := 1) (by decide +kernel)) rfl <|
    z_callV (idx := 63) (ci := 4) (N := n_X4_lentBy) (zd (i := .invokevirtual 63) (n := 3) (by decide +kernel)) to_X4_lentBy g961 g789 g790 (by decide +kernel) rfl rfl rfl (cs_X4_lentBy (l := l) (G := G) (gh := gh) (d)) <|
    z_iadd (zd (i := .iadd) (n := 1) (by decide +kernel)) <|
    z_iret (zd (i := .ireturn) (n := 1) (by decide +kernel)) rfl
noncomputable def t_X4_wealth : List zBl := [b_X4_wealth_0]
theorem tt_X4_wealth (d : Nat) : zT (zPb l G gh (d + 3) n_X4_wealth p_X4_wealth) t_X4_wealth p_X4_wealth := ⟨s_X4_wealth_0 d, trivial⟩
def q_X4_wealth_0 : List (Nat × Nat) := [(28, zk32), (30, zk10), (33, zk23)]
noncomputable def al_X4_wealth_0 : zAq := [(some (.inl 8589934591), [(28, zk32), (30, zk10), (33, zk23)])]
noncomputable def fm_X4_wealth_0 : List zFm := [(0, [], (fun vs => [.inr (.ref 28), .inl 9223372043297226757]), (fun vs => zP q_X4_wealth_0), (fun vs => Nat.sub (Nat.add 0 0) 0))]
def bf_X4_wealth_0 : List Nat := []
theorem r_X4_wealth_0_0 : zbox [] (fun vs => zFrun (zpost (zAlq al_X4_wealth_0)) 1000 t_X4_wealth fm_X4_wealth_0 bf_X4_wealth_0 (0, vs)) = true := by decide +kernel
set_option maxRecDepth 100000 in
theorem x_X4_wealth_0 (d : Nat) : zS l G gh (d + 3) (zpost (zAlq al_X4_wealth_0)) n_X4_wealth (zn 0 p_X4_wealth 0) (zwc (0, [.inr (.ref 28), .inl 9223372043297226757], zP q_X4_wealth_0) 0) := zentry (tt_X4_wealth d) fm_X4_wealth_0 bf_X4_wealth_0 1000 (by decide +kernel) rfl ⟨Nat.zero_lt_succ _, trivial⟩ (fun f hf => match f, hf with
  | 0, _ => fun vs hv => (zbox_t r_X4_wealth_0_0) vs hv
  | f + 1, h => absurd (show f + 1 < 1 from h) (Nat.not_lt.mpr (Nat.le_add_left 1 f)))
noncomputable def gs_X4_wealth_0 : zMt := zgq false [] 2 [.inr (.ref 28), .inl 9223372043297226757] q_X4_wealth_0 al_X4_wealth_0
set_option maxRecDepth 100000 in
theorem cs_X4_wealth_0 (d : Nat) : zC l G gh (d + 3) n_X4_wealth gs_X4_wealth_0 := zgq_ok0 (pcs := p_X4_wealth) (by decide) rfl rfl (fun a ha => by simp only [al_X4_wealth_0, List.mem_cons, List.not_mem_nil, or_false] at ha; rcases ha with rfl <;> decide +kernel) (fun gh => x_X4_wealth_0 d) (by decide +kernel)
noncomputable def gs_X4_wealth : zMt := gs_X4_wealth_0
theorem cs_X4_wealth (d : Nat) : zC l G gh (d + 3) n_X4_wealth gs_X4_wealth := (cs_X4_wealth_0 d)
def n_X0_clear : qMn := (yX0_clear, cX0_clear, 1, none, 0, 0)
theorem to_X0_clear : qTo n_X0_clear 0 := ⟨g259, g105, ⟨by decide, by decide, by decide +kernel⟩, by decide⟩
def p_X0_clear : List Nat := [0]
noncomputable def b_X0_clear_0 : zBl := fun jp K => oAld 0 <| oInt 2147483648 <| oPutI 0 1 <| oAld 0 <| oInt 2147483648 <| oPutI 0 2 <| oAld 0 <| oInt 2147483648 <| oPutI 0 5 <| oAld 0 <| oInt 2147483672 <| oPutI 0 8 <| oAld 0 <| oInt 2147483648 <| oPutI 0 9 <| oAld 0 <| oInt 2147483648 <| oPutI 0 10 <| oAld 0 <| oInt 2147483648 <| oPutI 0 11 <| oAld 0 <| oGetR 0 12 <| oCv 2 0 f_X2_clear <| oVret K
theorem s_X0_clear_0 (d : Nat) : zPb l G gh (d + 4) n_X0_clear p_X0_clear 0 b_X0_clear_0 := fun K jp hj =>
    z_aload_n (n := 0) (i := 0) (zd (i := .aload_n 0) (n := 1) (by decide +kernel)) rfl <|
    z_iconst (n := 0) (zd (i := .iconst (0)) (n := 1) (by decide +kernel)) (by decide +kernel) <|
    z_putI (ci := 0) (j := 1) (idx := 15) (zd (i := .putfield 15) (n := 3) (by decide +kernel)) (by decide +kernel) (by decide +kernel) rfl g277 (Or.inl rfl) <|
    z_aload_n (n := 0) (i := 0) (zd (i := .aload_n 0) (n := 1) (by decide +kernel)) rfl <|
    z_iconst (n := 0) (zd (i := .iconst (0)) (n := 1) (by decide +kernel)) (by decide +kernel) <|
    z_putI (ci := 0) (j := 2) (idx := 19) (zd (i := .putfield 19) (n := 3) (by decide +kernel)) (by decide +kernel) (by decide +kernel) rfl g278 (Or.inl rfl) <|
    z_aload_n (n := 0) (i := 0) (zd (i := .aload_n 0) (n := 1) (by decide +kernel)) rfl <|
    z_iconst (n := 0) (zd (i := .iconst (0)) (n := 1) (by decide +kernel)) (by decide +kernel) <|
    z_putI (ci := 0) (j := 5) (idx := 29) (zd (i := .putfield 29) (n := 3) (by decide +kernel)) (by decide +kernel) (by decide +kernel) rfl g285 (Or.inl rfl) <|
    z_aload_n (n := 0) (i := 0) (zd (i := .aload_n 0) (n := 1) (by decide +kernel)) rfl <|
    z_bipush (n := 24) (zd (i := .bipush (24)) (n := 2) (by decide +kernel)) (by decide +kernel) <|
    z_putI (ci := 0) (j := 8) (idx := 38) (zd (i := .putfield 38) (n := 3) (by decide +kernel)) (by decide +kernel) (by decide +kernel) rfl g293 (Or.inl rfl) <|
    z_aload_n (n := 0) (i := 0) (zd (i := .aload_n 0) (n := 1) (by decide +kernel)) rfl <|
    z_iconst (n := 0) (zd (i := .iconst (0)) (n := 1) (by decide +kernel)) (by decide +kernel) <|
    z_putI (ci := 0) (j := 9) (idx := 41) (zd (i := .putfield 41) (n := 3) (by decide +kernel)) (by decide +kernel) (by decide +kernel) rfl g295 (Or.inl rfl) <|
    z_aload_n (n := 0) (i := 0) (zd (i := .aload_n 0) (n := 1) (by decide +kernel)) rfl <|
    z_iconst (n := 0) (zd (i := .iconst (0)) (n := 1) (by decide +kernel)) (by decide +kernel) <|
    z_putI (ci := 0) (j := 10) (idx := 44) (zd (i := .putfield 44) (n := 3) (by decide +kernel)) (by decide +kernel) (by decide +kernel) rfl g298 (Or.inl rfl) <|
    z_aload_n (n := 0) (i := 0) (zd (i := .aload_n 0) (n := 1) (by decide +kernel)) rfl <|
    z_iconst (n := 0) (zd (i := .iconst (0)) (n := 1) (by decide +kernel)) (by decide +kernel) <|
    z_putI (ci := 0) (j := 11) (idx := 47) (zd (i := .putfield 47) (n := 3) (by decide +kernel)) (by decide +kernel) (by decide +kernel) rfl g301 (Or.inl rfl) <|
    z_aload_n (n := 0) (i := 0) (zd (i := .aload_n 0) (n := 1) (by decide +kernel)) rfl <|
    z_getR (ci := 0) (j := 12) (idx := 53) (zd (i := .getfield 53) (n := 3) (by decide +kernel)) (by decide +kernel) (by decide +kernel) rfl g304 <|
    z_callV (idx := 60) (ci := 2) (N := n_X2_clear) (zd (i := .invokevirtual 60) (n := 3) (by decide +kernel)) to_X2_clear g260 g261 g262 (by decide +kernel) rfl rfl rfl (c_X2_clear (l := l) (G := G) (gh := gh) (d)) <|
    z_vret (zd (i := .return_) (n := 1) (by decide +kernel)) rfl
noncomputable def t_X0_clear : List zBl := [b_X0_clear_0]
theorem tt_X0_clear (d : Nat) : zT (zPb l G gh (d + 4) n_X0_clear p_X0_clear) t_X0_clear p_X0_clear := ⟨s_X0_clear_0 d, trivial⟩
noncomputable def f_X0_clear : zMt := zmet 1 t_X0_clear
theorem c_X0_clear (d : Nat) : zC l G gh (d + 4) n_X0_clear f_X0_clear := zmet_ok (pcs := p_X0_clear) (by decide) rfl rfl (tt_X0_clear d)
def n_J0_indexOf_0f7a4 : qMn := (yJ0_indexOf_0f7a4, cJ0_indexOf_0f7a4, 2, (some Jvm.ClassFile.FieldType.int), 0, 0)
theorem to_J0_indexOf_0f7a4 : qTo n_J0_indexOf_0f7a4 1 := ⟨g562, g101, ⟨by decide, by decide, by decide +kernel⟩, by decide⟩
def p_J0_indexOf_0f7a4 : List Nat := [0]
noncomputable def b_J0_indexOf_0f7a4_0 : zBl := fun jp K => oAld 0 <| oIld 1 <| oInt 2147483648 <| oCt 2 f_J0_indexOf_7cf53 <| oIret K
theorem s_J0_indexOf_0f7a4_0 (d : Nat) : zPb l G gh (d + 4) n_J0_indexOf_0f7a4 p_J0_indexOf_0f7a4 0 b_J0_indexOf_0f7a4_0 := fun K jp hj =>
    z_aload_n (n := 0) (i := 0) (zd (i := .aload_n 0) (n := 1) (by decide +kernel)) rfl <|
    z_iload_n (n := 1) (i := 1) (zd (i := .iload_n 1) (n := 1) (by decide +kernel)) rfl <|
    z_iconst (n := 0) (zd (i := .iconst (0)) (n := 1) (by decide +kernel)) (by decide +kernel) <|
    z_callT (idx := 633) (N := n_J0_indexOf_7cf53) (zd (i := .invokevirtual 633) (n := 3) (by decide +kernel)) to_J0_indexOf_7cf53 g563 g564 g565 rfl rfl rfl (c_J0_indexOf_7cf53 (l := l) (G := G) (gh := gh) (d)) <|
    z_iret (zd (i := .ireturn) (n := 1) (by decide +kernel)) rfl
noncomputable def t_J0_indexOf_0f7a4 : List zBl := [b_J0_indexOf_0f7a4_0]
theorem tt_J0_indexOf_0f7a4 (d : Nat) : zT (zPb l G gh (d + 4) n_J0_indexOf_0f7a4 p_J0_indexOf_0f7a4) t_J0_indexOf_0f7a4 p_J0_indexOf_0f7a4 := ⟨s_J0_indexOf_0f7a4_0 d, trivial⟩
noncomputable def f_J0_indexOf_0f7a4 : zMt := zmet 2 t_J0_indexOf_0f7a4
theorem c_J0_indexOf_0f7a4 (d : Nat) : zC l G gh (d + 4) n_J0_indexOf_0f7a4 f_J0_indexOf_0f7a4 := zmet_ok (pcs := p_J0_indexOf_0f7a4) (by decide) rfl rfl (tt_J0_indexOf_0f7a4 d)
def n_X8_beginAnew : qMn := (yX8_beginAnew, cX8_beginAnew, 2, none, 0, 0)
theorem to_X8_beginAnew : qTo n_X8_beginAnew 0 := ⟨g683, g97, ⟨by decide, by decide, by decide +kernel⟩, by decide⟩
def p_X8_beginAnew : List Nat := [0, 28, 33, 46]
noncomputable def b_X8_beginAnew_0 : zBl := fun jp K => oAld 0 <| oGetR 8 2 <| oAld 0 <| oGetR 8 12 <| oCv 4 1 gs_X4_begin <| oAld 0 <| oGetR 8 4 <| oCv 3 0 f_X3_clear <| oAld 0 <| oGetR 8 7 <| oInt 2147483648 <| oPutI 7 0 <| oInt 2147483648 <| oIst 1 <| jp 1
theorem s_X8_beginAnew_0 (d : Nat) : zPb l G gh (d + 4) n_X8_beginAnew p_X8_beginAnew 0 b_X8_beginAnew_0 := fun K jp hj =>
    z_aload_n (n := 0) (i := 0) (zd (i := .aload_n 0) (n := 1) (by decide +kernel)) rfl <|
    z_getR (ci := 8) (j := 2) (idx := 26) (zd (i := .getfield 26) (n := 3) (by decide +kernel)) (by decide +kernel) (by decide +kernel) rfl g454 <|
    z_aload_n (n := 0) (i := 0) (zd (i := .aload_n 0) (n := 1) (by decide +kernel)) rfl <|
    z_getR (ci := 8) (j := 12) (idx := 71) (zd (i := .getfield 71) (n := 3) (by decide +kernel)) (by decide +kernel) (by decide +kernel) rfl g464 <|
    z_callV (idx := 107) (ci := 4) (N := n_X4_begin) (zd (i := .invokevirtual 107) (n := 3) (by decide +kernel)) to_X4_begin g684 g685 g686 (by decide +kernel) rfl rfl rfl (cs_X4_begin (l := l) (G := G) (gh := gh) (d)) <|
    z_aload_n (n := 0) (i := 0) (zd (i := .aload_n 0) (n := 1) (by decide +kernel)) rfl <|
    z_getR (ci := 8) (j := 4) (idx := 36) (zd (i := .getfield 36) (n := 3) (by decide +kernel)) (by decide +kernel) (by decide +kernel) rfl g456 <|
    z_callV (idx := 111) (ci := 3) (N := n_X3_clear) (zd (i := .invokevirtual 111) (n := 3) (by decide +kernel)) to_X3_clear g696 g697 g698 (by decide +kernel) rfl rfl rfl (c_X3_clear (l := l) (G := G) (gh := gh) (d + 2)) <|
    z_aload_n (n := 0) (i := 0) (zd (i := .aload_n 0) (n := 1) (by decide +kernel)) rfl <|
    z_getR (ci := 8) (j := 7) (idx := 51) (zd (i := .getfield 51) (n := 3) (by decide +kernel)) (by decide +kernel) (by decide +kernel) rfl g459 <|
    z_iconst (n := 0) (zd (i := .iconst (0)) (n := 1) (by decide +kernel)) (by decide +kernel) <|
    z_putI (ci := 7) (j := 0) (idx := 114) (zd (i := .putfield 114) (n := 3) (by decide +kernel)) (by decide +kernel) (by decide +kernel) rfl g430 (Or.inl rfl) <|
    z_iconst (n := 0) (zd (i := .iconst (0)) (n := 1) (by decide +kernel)) (by decide +kernel) <|
    z_istore_n (n := 1) (i := 1) (zd (i := .istore_n 1) (n := 1) (by decide +kernel)) rfl (by decide +kernel) <|
    (zj (hj 1) (by decide +kernel))
noncomputable def b_X8_beginAnew_1 : zBl := fun jp K => oNLC 1 2147483651 zgeN zltN zn1_ge zn1_lt (jp 3) (jp 2)
theorem s_X8_beginAnew_1 (d : Nat) : zPb l G gh (d + 4) n_X8_beginAnew p_X8_beginAnew 28 b_X8_beginAnew_1 := fun K jp hj =>
    z_nLC_ge (i := 1) (c0 := 2147483651) (a1 := 1) (a2 := 1) (off := 16) (tgt := 46) (zLd_n (n := 1) (i := 1) (zd (i := .iload_n 1) (n := 1) (by decide +kernel)) rfl) (zCn_c (n := 3) (zd (i := .iconst (3)) (n := 1) (by decide +kernel)) (by decide +kernel)) (zd (i := .if_icmp .ge (16)) (n := 3) (by decide +kernel)) (by decide +kernel) (zj (hj 3) (by decide +kernel)) (zj (hj 2) (by decide +kernel))
noncomputable def b_X8_beginAnew_2 : zBl := fun jp K => oAld 0 <| oGetR 8 6 <| oIld 1 <| oInt 2147483648 <| oXast 12 znz1 <| oInc 1 2147483649 <| jp 1
theorem s_X8_beginAnew_2 (d : Nat) : zPb l G gh (d + 4) n_X8_beginAnew p_X8_beginAnew 33 b_X8_beginAnew_2 := fun K jp hj =>
    z_aload_n (n := 0) (i := 0) (zd (i := .aload_n 0) (n := 1) (by decide +kernel)) rfl <|
    z_getR (ci := 8) (j := 6) (idx := 44) (zd (i := .getfield 44) (n := 3) (by decide +kernel)) (by decide +kernel) (by decide +kernel) rfl g458 <|
    z_iload_n (n := 1) (i := 1) (zd (i := .iload_n 1) (n := 1) (by decide +kernel)) rfl <|
    z_iconst (n := 0) (zd (i := .iconst (0)) (n := 1) (by decide +kernel)) (by decide +kernel) <|
    z_zast (zd (i := .bastore) (n := 1) (by decide +kernel)) <|
    z_iinc (i := 1) (n := 1) (zd (i := .iinc 1 (1)) (n := 3) (by decide +kernel)) (by decide +kernel) (by decide +kernel) <|
    z_goto (off := -15) (tgt := 28) (zd (i := .goto (-15)) (n := 3) (by decide +kernel)) (by decide +kernel) (zj (hj 1) (by decide +kernel))
noncomputable def b_X8_beginAnew_3 : zBl := fun jp K => oVret K
theorem s_X8_beginAnew_3 (d : Nat) : zPb l G gh (d + 4) n_X8_beginAnew p_X8_beginAnew 46 b_X8_beginAnew_3 := fun K jp hj =>
    z_vret (zd (i := .return_) (n := 1) (by decide +kernel)) rfl
noncomputable def t_X8_beginAnew : List zBl := [b_X8_beginAnew_0, b_X8_beginAnew_1, b_X8_beginAnew_2, b_X8_beginAnew_3]
theorem tt_X8_beginAnew (d : Nat) : zT (zPb l G gh (d + 4) n_X8_beginAnew p_X8_beginAnew) t_X8_beginAnew p_X8_beginAnew := ⟨s_X8_beginAnew_0 d, s_X8_beginAnew_1 d, s_X8_beginAnew_2 d, s_X8_beginAnew_3 d, trivial⟩
def q_X8_beginAnew_0 : List (Nat × Nat) := [(0, zk13), (9, zk6), (13, zk10), (14, zk10), (21, zk22), (22, zk10), (23, zk10), (24, zk10), (25, zk10), (26, zk23), (27, zk23), (35, zk35), (248, zk24), (249, zk18)]
noncomputable def al_X8_beginAnew_0 : zAq := [(none, [(0, zk13), (9, zk6), (13, zk10), (14, zk10), (21, zk98), (22, zk11), (23, zk11), (24, zk11), (25, zk11), (26, zk31), (27, zk31), (35, zk67), (248, zk102), (249, zk20)])]
def mq_X8_beginAnew_0_1 : List (Nat × Nat) := [(0, zk13), (9, zk6), (13, zk10), (14, zk10), (21, zk98), (22, zk11), (23, zk11), (24, zk11), (25, zk11), (26, zk31), (27, zk31), (35, zk108), (248, zk102), (249, zk109)]
noncomputable def fm_X8_beginAnew_0 : List zFm := [(0, [], (fun vs => [.inr (.ref 0)]), (fun vs => zP q_X8_beginAnew_0), (fun vs => Nat.sub (Nat.add 4 0) 0)),
  (1, [(1, 2147483648, 2147483651)], (fun vs => [.inr (.ref 0), .inl (zn 0 vs 0)]), (fun vs => zP mq_X8_beginAnew_0_1), (fun vs => Nat.sub (Nat.add 2147483651 0) (Nat.add 0 (Nat.mul 1 (zn 0 vs 0)))))]
def bf_X8_beginAnew_0 : List Nat := [0, 2]
theorem r_X8_beginAnew_0_0 : zbox [] (fun vs => zFrun (zpost (zAlq al_X8_beginAnew_0)) 1000 t_X8_beginAnew fm_X8_beginAnew_0 bf_X8_beginAnew_0 (0, vs)) = true := by decide +kernel
theorem r_X8_beginAnew_0_1 : zbox [(1, 2147483648, 2147483651)] (fun vs => zFrun (zpost (zAlq al_X8_beginAnew_0)) 1000 t_X8_beginAnew fm_X8_beginAnew_0 bf_X8_beginAnew_0 (1, vs)) = true := by decide +kernel
set_option maxRecDepth 100000 in
theorem x_X8_beginAnew_0 (d : Nat) : zS l G gh (d + 4) (zpost (zAlq al_X8_beginAnew_0)) n_X8_beginAnew (zn 0 p_X8_beginAnew 0) (zwc (0, [.inr (.ref 0)], zP q_X8_beginAnew_0) 0) := zentry (tt_X8_beginAnew d) fm_X8_beginAnew_0 bf_X8_beginAnew_0 1000 (by decide +kernel) rfl ⟨Nat.zero_lt_succ _, trivial⟩ (fun f hf => match f, hf with
  | 0, _ => fun vs hv => (zbox_t r_X8_beginAnew_0_0) vs hv
  | 1, _ => fun vs hv => (zbox_t r_X8_beginAnew_0_1) vs hv
  | f + 2, h => absurd (show f + 2 < 2 from h) (Nat.not_lt.mpr (Nat.le_add_left 2 f)))
noncomputable def gs_X8_beginAnew_0 : zMt := zgq false [] 2 [.inr (.ref 0)] q_X8_beginAnew_0 al_X8_beginAnew_0
set_option maxRecDepth 100000 in
theorem cs_X8_beginAnew_0 (d : Nat) : zC l G gh (d + 4) n_X8_beginAnew gs_X8_beginAnew_0 := zgq_ok0 (pcs := p_X8_beginAnew) (by decide) rfl rfl (fun a ha => by simp only [al_X8_beginAnew_0, List.mem_cons, List.not_mem_nil, or_false] at ha; rcases ha with rfl <;> decide +kernel) (fun gh => x_X8_beginAnew_0 d) (by decide +kernel)
def q_X8_beginAnew_1 : List (Nat × Nat) := [(0, zk12), (21, zk22), (22, zk10), (23, zk10), (24, zk10), (25, zk10), (26, zk23), (27, zk23), (35, zk35), (248, zk24), (249, zk18), (259, zk8), (263, zk10), (264, zk10)]
noncomputable def al_X8_beginAnew_1 : zAq := [(none, [(0, zk12), (21, zk98), (22, zk11), (23, zk11), (24, zk11), (25, zk11), (26, zk31), (27, zk31), (35, zk67), (248, zk102), (249, zk20), (259, zk8), (263, zk10), (264, zk10)])]
def mq_X8_beginAnew_1_1 : List (Nat × Nat) := [(0, zk12), (21, zk98), (22, zk11), (23, zk11), (24, zk11), (25, zk11), (26, zk31), (27, zk31), (35, zk108), (248, zk102), (249, zk109), (259, zk8), (263, zk10), (264, zk10)]
noncomputable def fm_X8_beginAnew_1 : List zFm := [(0, [], (fun vs => [.inr (.ref 0)]), (fun vs => zP q_X8_beginAnew_1), (fun vs => Nat.sub (Nat.add 4 0) 0)),
  (1, [(1, 2147483648, 2147483651)], (fun vs => [.inr (.ref 0), .inl (zn 0 vs 0)]), (fun vs => zP mq_X8_beginAnew_1_1), (fun vs => Nat.sub (Nat.add 2147483651 0) (Nat.add 0 (Nat.mul 1 (zn 0 vs 0)))))]
def bf_X8_beginAnew_1 : List Nat := [0, 2]
theorem r_X8_beginAnew_1_0 : zbox [] (fun vs => zFrun (zpost (zAlq al_X8_beginAnew_1)) 1000 t_X8_beginAnew fm_X8_beginAnew_1 bf_X8_beginAnew_1 (0, vs)) = true := by decide +kernel
theorem r_X8_beginAnew_1_1 : zbox [(1, 2147483648, 2147483651)] (fun vs => zFrun (zpost (zAlq al_X8_beginAnew_1)) 1000 t_X8_beginAnew fm_X8_beginAnew_1 bf_X8_beginAnew_1 (1, vs)) = true := by decide +kernel
set_option maxRecDepth 100000 in
theorem x_X8_beginAnew_1 (d : Nat) : zS l G gh (d + 4) (zpost (zAlq al_X8_beginAnew_1)) n_X8_beginAnew (zn 0 p_X8_beginAnew 0) (zwc (0, [.inr (.ref 0)], zP q_X8_beginAnew_1) 0) := zentry (tt_X8_beginAnew d) fm_X8_beginAnew_1 bf_X8_beginAnew_1 1000 (by decide +kernel) rfl ⟨Nat.zero_lt_succ _, trivial⟩ (fun f hf => match f, hf with
  | 0, _ => fun vs hv => (zbox_t r_X8_beginAnew_1_0) vs hv
  | 1, _ => fun vs hv => (zbox_t r_X8_beginAnew_1_1) vs hv
  | f + 2, h => absurd (show f + 2 < 2 from h) (Nat.not_lt.mpr (Nat.le_add_left 2 f)))
noncomputable def gs_X8_beginAnew_1 : zMt := zgq false [] 2 [.inr (.ref 0)] q_X8_beginAnew_1 al_X8_beginAnew_1
set_option maxRecDepth 100000 in
theorem cs_X8_beginAnew_1 (d : Nat) : zC l G gh (d + 4) n_X8_beginAnew gs_X8_beginAnew_1 := zgq_ok0 (pcs := p_X8_beginAnew) (by decide) rfl rfl (fun a ha => by simp only [al_X8_beginAnew_1, List.mem_cons, List.not_mem_nil, or_false] at ha; rcases ha with rfl <;> decide +kernel) (fun gh => x_X8_beginAnew_1 d) (by decide +kernel)
noncomputable def gs_X8_beginAnew : zMt := (zor gs_X8_beginAnew_0 gs_X8_beginAnew_1)
theorem cs_X8_beginAnew (d : Nat) : zC l G gh (d + 4) n_X8_beginAnew gs_X8_beginAnew := (zor_ok (cs_X8_beginAnew_0 d) (cs_X8_beginAnew_1 d))
def n_X0_heat : qMn := (yX0_heat, cX0_heat, 2, (some Jvm.ClassFile.FieldType.int), 0, 0)
theorem to_X0_heat : qTo n_X0_heat 1 := ⟨g719, g105, ⟨by decide, by decide, by decide +kernel⟩, by decide⟩
def p_X0_heat : List Nat := [0]
noncomputable def b_X0_heat_0 : zBl := fun jp K => oAld 0 <| oGetR 0 12 <| oIld 1 <| oCv 2 1 f_X2_heat <| oIret K
theorem s_X0_heat_0 (d : Nat) : zPb l G gh (d + 4) n_X0_heat p_X0_heat 0 b_X0_heat_0 := fun K jp hj =>
    z_aload_n (n := 0) (i := 0) (zd (i := .aload_n 0) (n := 1) (by decide +kernel)) rfl <|
    z_getR (ci := 0) (j := 12) (idx := 53) (zd (i := .getfield 53) (n := 3) (by decide +kernel)) (by decide +kernel) (by decide +kernel) rfl g304 <|
    z_iload_n (n := 1) (i := 1) (zd (i := .iload_n 1) (n := 1) (by decide +kernel)) rfl <|
    z_callV (idx := 61) (ci := 2) (N := n_X2_heat) (zd (i := .invokevirtual 61) (n := 3) (by decide +kernel)) to_X2_heat g720 g721 g722 (by decide +kernel) rfl rfl rfl (c_X2_heat (l := l) (G := G) (gh := gh) (d)) <|
    z_iret (zd (i := .ireturn) (n := 1) (by decide +kernel)) rfl
noncomputable def t_X0_heat : List zBl := [b_X0_heat_0]
theorem tt_X0_heat (d : Nat) : zT (zPb l G gh (d + 4) n_X0_heat p_X0_heat) t_X0_heat p_X0_heat := ⟨s_X0_heat_0 d, trivial⟩
noncomputable def f_X0_heat : zMt := zmet 2 t_X0_heat
theorem c_X0_heat (d : Nat) : zC l G gh (d + 4) n_X0_heat f_X0_heat := zmet_ok (pcs := p_X0_heat) (by decide) rfl rfl (tt_X0_heat d)
def n_X0_isSeenFrom : qMn := (yX0_isSeenFrom, cX0_isSeenFrom, 5, (some Jvm.ClassFile.FieldType.boolean), 0, 0)
theorem to_X0_isSeenFrom : qTo n_X0_isSeenFrom 4 := ⟨g748, g105, ⟨by decide, by decide, by decide +kernel⟩, by decide⟩
def p_X0_isSeenFrom : List Nat := [0]
noncomputable def b_X0_isSeenFrom_0 : zBl := fun jp K => oAld 0 <| oGetR 0 12 <| oIld 3 <| oIld 4 <| oIld 1 <| oAld 0 <| oGetR 0 3 <| oIld 2 <| oXald 10 <| oAld 0 <| oGetR 0 4 <| oIld 2 <| oXald 10 <| oCv 2 5 gs_X2_aim <| oAld 0 <| oGetR 0 12 <| oCv 2 0 f_X2_isSeen <| oZret K
theorem s_X0_isSeenFrom_0 (d : Nat) : zPb l G gh (d + 4) n_X0_isSeenFrom p_X0_isSeenFrom 0 b_X0_isSeenFrom_0 := fun K jp hj =>
    z_aload_n (n := 0) (i := 0) (zd (i := .aload_n 0) (n := 1) (by decide +kernel)) rfl <|
    z_getR (ci := 0) (j := 12) (idx := 53) (zd (i := .getfield 53) (n := 3) (by decide +kernel)) (by decide +kernel) (by decide +kernel) rfl g304 <|
    z_iload_n (n := 3) (i := 3) (zd (i := .iload_n 3) (n := 1) (by decide +kernel)) rfl <|
    z_iload (i := 4) (zd (i := .iload 4) (n := 2) (by decide +kernel)) <|
    z_iload_n (n := 1) (i := 1) (zd (i := .iload_n 1) (n := 1) (by decide +kernel)) rfl <|
    z_aload_n (n := 0) (i := 0) (zd (i := .aload_n 0) (n := 1) (by decide +kernel)) rfl <|
    z_getR (ci := 0) (j := 3) (idx := 22) (zd (i := .getfield 22) (n := 3) (by decide +kernel)) (by decide +kernel) (by decide +kernel) rfl g281 <|
    z_iload_n (n := 2) (i := 2) (zd (i := .iload_n 2) (n := 1) (by decide +kernel)) rfl <|
    z_iald (zd (i := .iaload) (n := 1) (by decide +kernel)) <|
    z_aload_n (n := 0) (i := 0) (zd (i := .aload_n 0) (n := 1) (by decide +kernel)) rfl <|
    z_getR (ci := 0) (j := 4) (idx := 26) (zd (i := .getfield 26) (n := 3) (by decide +kernel)) (by decide +kernel) (by decide +kernel) rfl g283 <|
    z_iload_n (n := 2) (i := 2) (zd (i := .iload_n 2) (n := 1) (by decide +kernel)) rfl <|
    z_iald (zd (i := .iaload) (n := 1) (by decide +kernel)) <|
    z_callV (idx := 65) (ci := 2) (N := n_X2_aim) (zd (i := .invokevirtual 65) (n := 3) (by decide +kernel)) to_X2_aim g749 g750 g751 (by decide +kernel) rfl rfl rfl (cs_X2_aim (l := l) (G := G) (gh := gh) (d + 2)) <|
    z_aload_n (n := 0) (i := 0) (zd (i := .aload_n 0) (n := 1) (by decide +kernel)) rfl <|
    z_getR (ci := 0) (j := 12) (idx := 53) (zd (i := .getfield 53) (n := 3) (by decide +kernel)) (by decide +kernel) (by decide +kernel) rfl g304 <|
    z_callV (idx := 69) (ci := 2) (N := n_X2_isSeen) (zd (i := .invokevirtual 69) (n := 3) (by decide +kernel)) to_X2_isSeen g756 g757 g758 (by decide +kernel) rfl rfl rfl (c_X2_isSeen (l := l) (G := G) (gh := gh) (d)) <|
    z_zret (zd (i := .ireturn) (n := 1) (by decide +kernel)) rfl
noncomputable def t_X0_isSeenFrom : List zBl := [b_X0_isSeenFrom_0]
theorem tt_X0_isSeenFrom (d : Nat) : zT (zPb l G gh (d + 4) n_X0_isSeenFrom p_X0_isSeenFrom) t_X0_isSeenFrom p_X0_isSeenFrom := ⟨s_X0_isSeenFrom_0 d, trivial⟩
def q_X0_isSeenFrom_0 : List (Nat × Nat) := [(259, zk8), (261, zk10), (262, zk10), (265, zk14), (266, zk33), (267, zk33), (268, zk34), (269, zk15), (270, zk19)]
noncomputable def al_X0_isSeenFrom_0 : zAq := [(some (.inl 9223372043297226753), [(259, zk8), (261, zk10), (262, zk10), (265, zk14), (266, zk33), (267, zk33), (268, zk34), (269, zk16), (270, zk21)])]
noncomputable def fm_X0_isSeenFrom_0 : List zFm := [(0, [], (fun vs => [.inr (.ref 259), .inl 8589934591, .inl 9223372043297226757, .inl 8589934591, .inl 8589934591]), (fun vs => zP q_X0_isSeenFrom_0), (fun vs => Nat.sub (Nat.add 0 0) 0))]
def bf_X0_isSeenFrom_0 : List Nat := []
theorem r_X0_isSeenFrom_0_0 : zbox [] (fun vs => zFrun (zpost (zAlq al_X0_isSeenFrom_0)) 1000 t_X0_isSeenFrom fm_X0_isSeenFrom_0 bf_X0_isSeenFrom_0 (0, vs)) = true := by decide +kernel
set_option maxRecDepth 100000 in
theorem x_X0_isSeenFrom_0 (d : Nat) : zS l G gh (d + 4) (zpost (zAlq al_X0_isSeenFrom_0)) n_X0_isSeenFrom (zn 0 p_X0_isSeenFrom 0) (zwc (0, [.inr (.ref 259), .inl 8589934591, .inl 9223372043297226757, .inl 8589934591, .inl 8589934591], zP q_X0_isSeenFrom_0) 0) := zentry (tt_X0_isSeenFrom d) fm_X0_isSeenFrom_0 bf_X0_isSeenFrom_0 1000 (by decide +kernel) rfl ⟨Nat.zero_lt_succ _, trivial⟩ (fun f hf => match f, hf with
  | 0, _ => fun vs hv => (zbox_t r_X0_isSeenFrom_0_0) vs hv
  | f + 1, h => absurd (show f + 1 < 1 from h) (Nat.not_lt.mpr (Nat.le_add_left 1 f)))
noncomputable def gs_X0_isSeenFrom_0 : zMt := zgq false [] 5 [.inr (.ref 259), .inl 8589934591, .inl 9223372043297226757, .inl 8589934591, .inl 8589934591] q_X0_isSeenFrom_0 al_X0_isSeenFrom_0
set_option maxRecDepth 100000 in
theorem cs_X0_isSeenFrom_0 (d : Nat) : zC l G gh (d + 4) n_X0_isSeenFrom gs_X0_isSeenFrom_0 := zgq_ok0 (pcs := p_X0_isSeenFrom) (by decide) rfl rfl (fun a ha => by simp only [al_X0_isSeenFrom_0, List.mem_cons, List.not_mem_nil, or_false] at ha; rcases ha with rfl <;> decide +kernel) (fun gh => x_X0_isSeenFrom_0 d) (by decide +kernel)
def q_X0_isSeenFrom_1 : List (Nat × Nat) := [(9, zk6), (11, zk10), (12, zk10), (15, zk17), (16, zk33), (17, zk33), (18, zk34), (19, zk15), (20, zk19)]
noncomputable def al_X0_isSeenFrom_1 : zAq := [(some (.inl 9223372043297226753), [(9, zk6), (11, zk10), (12, zk10), (15, zk17), (16, zk33), (17, zk33), (18, zk34), (19, zk16), (20, zk21)])]
noncomputable def fm_X0_isSeenFrom_1 : List zFm := [(0, [], (fun vs => [.inr (.ref 9), .inl 8589934591, .inl 9223372043297226757, .inl 8589934591, .inl 8589934591]), (fun vs => zP q_X0_isSeenFrom_1), (fun vs => Nat.sub (Nat.add 0 0) 0))]
def bf_X0_isSeenFrom_1 : List Nat := []
theorem r_X0_isSeenFrom_1_0 : zbox [] (fun vs => zFrun (zpost (zAlq al_X0_isSeenFrom_1)) 1000 t_X0_isSeenFrom fm_X0_isSeenFrom_1 bf_X0_isSeenFrom_1 (0, vs)) = true := by decide +kernel
set_option maxRecDepth 100000 in
theorem x_X0_isSeenFrom_1 (d : Nat) : zS l G gh (d + 4) (zpost (zAlq al_X0_isSeenFrom_1)) n_X0_isSeenFrom (zn 0 p_X0_isSeenFrom 0) (zwc (0, [.inr (.ref 9), .inl 8589934591, .inl 9223372043297226757, .inl 8589934591, .inl 8589934591], zP q_X0_isSeenFrom_1) 0) := zentry (tt_X0_isSeenFrom d) fm_X0_isSeenFrom_1 bf_X0_isSeenFrom_1 1000 (by decide +kernel) rfl ⟨Nat.zero_lt_succ _, trivial⟩ (fun f hf => match f, hf with
  | 0, _ => fun vs hv => (zbox_t r_X0_isSeenFrom_1_0) vs hv
  | f + 1, h => absurd (show f + 1 < 1 from h) (Nat.not_lt.mpr (Nat.le_add_left 1 f)))
noncomputable def gs_X0_isSeenFrom_1 : zMt := zgq false [] 5 [.inr (.ref 9), .inl 8589934591, .inl 9223372043297226757, .inl 8589934591, .inl 8589934591] q_X0_isSeenFrom_1 al_X0_isSeenFrom_1
set_option maxRecDepth 100000 in
theorem cs_X0_isSeenFrom_1 (d : Nat) : zC l G gh (d + 4) n_X0_isSeenFrom gs_X0_isSeenFrom_1 := zgq_ok0 (pcs := p_X0_isSeenFrom) (by decide) rfl rfl (fun a ha => by simp only [al_X0_isSeenFrom_1, List.mem_cons, List.not_mem_nil, or_false] at ha; rcases ha with rfl <;> decide +kernel) (fun gh => x_X0_isSeenFrom_1 d) (by decide +kernel)
noncomputable def gs_X0_isSeenFrom : zMt := (zor gs_X0_isSeenFrom_0 gs_X0_isSeenFrom_1)
theorem cs_X0_isSeenFrom (d : Nat) : zC l G gh (d + 4) n_X0_isSeenFrom gs_X0_isSeenFrom := (zor_ok (cs_X0_isSeenFrom_0 d) (cs_X0_isSeenFrom_1 d))
def n_X0_movedFrom : qMn := (yX0_movedFrom, cX0_movedFrom, 5, (some Jvm.ClassFile.FieldType.int), 0, 0)
theorem to_X0_movedFrom : qTo n_X0_movedFrom 4 := ⟨g811, g105, ⟨by decide, by decide, by decide +kernel⟩, by decide⟩
def p_X0_movedFrom : List Nat := [0]
noncomputable def b_X0_movedFrom_0 : zBl := fun jp K => oAld 0 <| oGetR 0 12 <| oIld 3 <| oIld 4 <| oIld 1 <| oAld 0 <| oGetR 0 3 <| oIld 2 <| oXald 10 <| oAld 0 <| oGetR 0 4 <| oIld 2 <| oXald 10 <| oCv 2 5 gs_X2_aim <| oAld 0 <| oGetR 0 12 <| oCv 2 0 f_X2_moved <| oIret K
theorem s_X0_movedFrom_0 (d : Nat) : zPb l G gh (d + 4) n_X0_movedFrom p_X0_movedFrom 0 b_X0_movedFrom_0 := fun K jp hj =>
    z_aload_n (n := 0) (i := 0) (zd (i := .aload_n 0) (n := 1) (by decide +kernel)) rfl <|
    z_getR (ci := 0) (j := 12) (idx := 53) (zd (i := .getfield 53) (n := 3) (by decide +kernel)) (by decide +kernel) (by decide +kernel) rfl g304 <|
    z_iload_n (n := 3) (i := 3) (zd (i := .iload_n 3) (n := 1) (by decide +kernel)) rfl <|
    z_iload (i := 4) (zd (i := .iload 4) (n := 2) (by decide +kernel)) <|
    z_iload_n (n := 1) (i := 1) (zd (i := .iload_n 1) (n := 1) (by decide +kernel)) rfl <|
    z_aload_n (n := 0) (i := 0) (zd (i := .aload_n 0) (n := 1) (by decide +kernel)) rfl <|
    z_getR (ci := 0) (j := 3) (idx := 22) (zd (i := .getfield 22) (n := 3) (by decide +kernel)) (by decide +kernel) (by decide +kernel) rfl g281 <|
    z_iload_n (n := 2) (i := 2) (zd (i := .iload_n 2) (n := 1) (by decide +kernel)) rfl <|
    z_iald (zd (i := .iaload) (n := 1) (by decide +kernel)) <|
    z_aload_n (n := 0) (i := 0) (zd (i := .aload_n 0) (n := 1) (by decide +kernel)) rfl <|
    z_getR (ci := 0) (j := 4) (idx := 26) (zd (i := .getfield 26) (n := 3) (by decide +kernel)) (by decide +kernel) (by decide +kernel) rfl g283 <|
    z_iload_n (n := 2) (i := 2) (zd (i := .iload_n 2) (n := 1) (by decide +kernel)) rfl <|
    z_iald (zd (i := .iaload) (n := 1) (by decide +kernel)) <|
    z_callV (idx := 65) (ci := 2) (N := n_X2_aim) (zd (i := .invokevirtual 65) (n := 3) (by decide +kernel)) to_X2_aim g749 g750 g751 (by decide +kernel) rfl rfl rfl (cs_X2_aim (l := l) (G := G) (gh := gh) (d + 2)) <|
    z_aload_n (n := 0) (i := 0) (zd (i := .aload_n 0) (n := 1) (by decide +kernel)) rfl <|
    z_getR (ci := 0) (j := 12) (idx := 53) (zd (i := .getfield 53) (n := 3) (by decide +kernel)) (by decide +kernel) (by decide +kernel) rfl g304 <|
    z_callV (idx := 77) (ci := 2) (N := n_X2_moved) (zd (i := .invokevirtual 77) (n := 3) (by decide +kernel)) to_X2_moved g812 g813 g814 (by decide +kernel) rfl rfl rfl (c_X2_moved (l := l) (G := G) (gh := gh) (d)) <|
    z_iret (zd (i := .ireturn) (n := 1) (by decide +kernel)) rfl
noncomputable def t_X0_movedFrom : List zBl := [b_X0_movedFrom_0]
theorem tt_X0_movedFrom (d : Nat) : zT (zPb l G gh (d + 4) n_X0_movedFrom p_X0_movedFrom) t_X0_movedFrom p_X0_movedFrom := ⟨s_X0_movedFrom_0 d, trivial⟩
def q_X0_movedFrom_0 : List (Nat × Nat) := [(259, zk8), (261, zk10), (262, zk10), (265, zk14), (266, zk33), (267, zk33), (268, zk34), (269, zk15), (270, zk19)]
noncomputable def al_X0_movedFrom_0 : zAq := [(some (.inl 9223372004642521097), [(259, zk8), (261, zk10), (262, zk10), (265, zk14), (266, zk33), (267, zk33), (268, zk34), (269, zk16), (270, zk21)])]
noncomputable def fm_X0_movedFrom_0 : List zFm := [(0, [], (fun vs => [.inr (.ref 259), .inl 8589934591, .inl 9223372043297226757, .inl 8589934591, .inl 8589934591]), (fun vs => zP q_X0_movedFrom_0), (fun vs => Nat.sub (Nat.add 0 0) 0))]
def bf_X0_movedFrom_0 : List Nat := []
theorem r_X0_movedFrom_0_0 : zbox [] (fun vs => zFrun (zpost (zAlq al_X0_movedFrom_0)) 1000 t_X0_movedFrom fm_X0_movedFrom_0 bf_X0_movedFrom_0 (0, vs)) = true := by decide +kernel
set_option maxRecDepth 100000 in
theorem x_X0_movedFrom_0 (d : Nat) : zS l G gh (d + 4) (zpost (zAlq al_X0_movedFrom_0)) n_X0_movedFrom (zn 0 p_X0_movedFrom 0) (zwc (0, [.inr (.ref 259), .inl 8589934591, .inl 9223372043297226757, .inl 8589934591, .inl 8589934591], zP q_X0_movedFrom_0) 0) := zentry (tt_X0_movedFrom d) fm_X0_movedFrom_0 bf_X0_movedFrom_0 1000 (by decide +kernel) rfl ⟨Nat.zero_lt_succ _, trivial⟩ (fun f hf => match f, hf with
  | 0, _ => fun vs hv => (zbox_t r_X0_movedFrom_0_0) vs hv
  | f + 1, h => absurd (show f + 1 < 1 from h) (Nat.not_lt.mpr (Nat.le_add_left 1 f)))
noncomputable def gs_X0_movedFrom_0 : zMt := zgq false [] 5 [.inr (.ref 259), .inl 8589934591, .inl 9223372043297226757, .inl 8589934591, .inl 8589934591] q_X0_movedFrom_0 al_X0_movedFrom_0
set_option maxRecDepth 100000 in
theorem cs_X0_movedFrom_0 (d : Nat) : zC l G gh (d + 4) n_X0_movedFrom gs_X0_movedFrom_0 := zgq_ok0 (pcs := p_X0_movedFrom) (by decide) rfl rfl (fun a ha => by simp only [al_X0_movedFrom_0, List.mem_cons, List.not_mem_nil, or_false] at ha; rcases ha with rfl <;> decide +kernel) (fun gh => x_X0_movedFrom_0 d) (by decide +kernel)
def q_X0_movedFrom_1 : List (Nat × Nat) := [(9, zk6), (11, zk10), (12, zk10), (15, zk17), (16, zk33), (17, zk33), (18, zk34), (19, zk15), (20, zk19)]
noncomputable def al_X0_movedFrom_1 : zAq := [(some (.inl 9223372004642521097), [(9, zk6), (11, zk10), (12, zk10), (15, zk17), (16, zk33), (17, zk33), (18, zk34), (19, zk16), (20, zk21)])]
noncomputable def fm_X0_movedFrom_1 : List zFm := [(0, [], (fun vs => [.inr (.ref 9), .inl 8589934591, .inl 9223372043297226757, .inl 8589934591, .inl 8589934591]), (fun vs => zP q_X0_movedFrom_1), (fun vs => Nat.sub (Nat.add 0 0) 0))]
def bf_X0_movedFrom_1 : List Nat := []
theorem r_X0_movedFrom_1_0 : zbox [] (fun vs => zFrun (zpost (zAlq al_X0_movedFrom_1)) 1000 t_X0_movedFrom fm_X0_movedFrom_1 bf_X0_movedFrom_1 (0, vs)) = true := by decide +kernel
set_option maxRecDepth 100000 in
theorem x_X0_movedFrom_1 (d : Nat) : zS l G gh (d + 4) (zpost (zAlq al_X0_movedFrom_1)) n_X0_movedFrom (zn 0 p_X0_movedFrom 0) (zwc (0, [.inr (.ref 9), .inl 8589934591, .inl 9223372043297226757, .inl 8589934591, .inl 8589934591], zP q_X0_movedFrom_1) 0) := zentry (tt_X0_movedFrom d) fm_X0_movedFrom_1 bf_X0_movedFrom_1 1000 (by decide +kernel) rfl ⟨Nat.zero_lt_succ _, trivial⟩ (fun f hf => match f, hf with
  | 0, _ => fun vs hv => (zbox_t r_X0_movedFrom_1_0) vs hv
  | f + 1, h => absurd (show f + 1 < 1 from h) (Nat.not_lt.mpr (Nat.le_add_left 1 f)))
noncomputable def gs_X0_movedFrom_1 : zMt := zgq false [] 5 [.inr (.ref 9), .inl 8589934591, .inl 9223372043297226757, .inl 8589934591, .inl 8589934591] q_X0_movedFrom_1 al_X0_movedFrom_1
set_option maxRecDepth 100000 in
theorem cs_X0_movedFrom_1 (d : Nat) : zC l G gh (d + 4) n_X0_movedFrom gs_X0_movedFrom_1 := zgq_ok0 (pcs := p_X0_movedFrom) (by decide) rfl rfl (fun a ha => by simp only [al_X0_movedFrom_1, List.mem_cons, List.not_mem_nil, or_false] at ha; rcases ha with rfl <;> decide +kernel) (fun gh => x_X0_movedFrom_1 d) (by decide +kernel)
noncomputable def gs_X0_movedFrom : zMt := (zor gs_X0_movedFrom_0 gs_X0_movedFrom_1)
theorem cs_X0_movedFrom (d : Nat) : zC l G gh (d + 4) n_X0_movedFrom gs_X0_movedFrom := (zor_ok (cs_X0_movedFrom_0 d) (cs_X0_movedFrom_1 d))
def n_X0_rentFrom : qMn := (yX0_rentFrom, cX0_rentFrom, 6, (some Jvm.ClassFile.FieldType.int), 0, 0)
theorem to_X0_rentFrom : qTo n_X0_rentFrom 5 := ⟨g819, g105, ⟨by decide, by decide, by decide +kernel⟩, by decide⟩
def p_X0_rentFrom : List Nat := [0]
noncomputable def b_X0_rentFrom_0 : zBl := fun jp K => oAld 0 <| oGetR 0 12 <| oIld 3 <| oIld 4 <| oIld 1 <| oAld 0 <| oGetR 0 3 <| oIld 2 <| oXald 10 <| oAld 0 <| oGetR 0 4 <| oIld 2 <| oXald 10 <| oCv 2 5 gs_X2_aim <| oAld 0 <| oGetR 0 12 <| oIld 5 <| oCv 2 1 f_X2_rent <| oIret K
theorem s_X0_rentFrom_0 (d : Nat) : zPb l G gh (d + 4) n_X0_rentFrom p_X0_rentFrom 0 b_X0_rentFrom_0 := fun K jp hj =>
    z_aload_n (n := 0) (i := 0) (zd (i := .aload_n 0) (n := 1) (by decide +kernel)) rfl <|
    z_getR (ci := 0) (j := 12) (idx := 53) (zd (i := .getfield 53) (n := 3) (by decide +kernel)) (by decide +kernel) (by decide +kernel) rfl g304 <|
    z_iload_n (n := 3) (i := 3) (zd (i := .iload_n 3) (n := 1) (by decide +kernel)) rfl <|
    z_iload (i := 4) (zd (i := .iload 4) (n := 2) (by decide +kernel)) <|
    z_iload_n (n := 1) (i := 1) (zd (i := .iload_n 1) (n := 1) (by decide +kernel)) rfl <|
    z_aload_n (n := 0) (i := 0) (zd (i := .aload_n 0) (n := 1) (by decide +kernel)) rfl <|
    z_getR (ci := 0) (j := 3) (idx := 22) (zd (i := .getfield 22) (n := 3) (by decide +kernel)) (by decide +kernel) (by decide +kernel) rfl g281 <|
    z_iload_n (n := 2) (i := 2) (zd (i := .iload_n 2) (n := 1) (by decide +kernel)) rfl <|
    z_iald (zd (i := .iaload) (n := 1) (by decide +kernel)) <|
    z_aload_n (n := 0) (i := 0) (zd (i := .aload_n 0) (n := 1) (by decide +kernel)) rfl <|
    z_getR (ci := 0) (j := 4) (idx := 26) (zd (i := .getfield 26) (n := 3) (by decide +kernel)) (by decide +kernel) (by decide +kernel) rfl g283 <|
    z_iload_n (n := 2) (i := 2) (zd (i := .iload_n 2) (n := 1) (by decide +kernel)) rfl <|
    z_iald (zd (i := .iaload) (n := 1) (by decide +kernel)) <|
    z_callV (idx := 65) (ci := 2) (N := n_X2_aim) (zd (i := .invokevirtual 65) (n := 3) (by decide +kernel)) to_X2_aim g749 g750 g751 (by decide +kernel) rfl rfl rfl (cs_X2_aim (l := l) (G := G) (gh := gh) (d + 2)) <|
    z_aload_n (n := 0) (i := 0) (zd (i := .aload_n 0) (n := 1) (by decide +kernel)) rfl <|
    z_getR (ci := 0) (j := 12) (idx := 53) (zd (i := .getfield 53) (n := 3) (by decide +kernel)) (by decide +kernel) (by decide +kernel) rfl g304 <|
    z_iload (i := 5) (zd (i := .iload 5) (n := 2) (by decide +kernel)) <|
    z_callV (idx := 80) (ci := 2) (N := n_X2_rent) (zd (i := .invokevirtual 80) (n := 3) (by decide +kernel)) to_X2_rent g820 g821 g822 (by decide +kernel) rfl rfl rfl (c_X2_rent (l := l) (G := G) (gh := gh) (d)) <|
    z_iret (zd (i := .ireturn) (n := 1) (by decide +kernel)) rfl
noncomputable def t_X0_rentFrom : List zBl := [b_X0_rentFrom_0]
theorem tt_X0_rentFrom (d : Nat) : zT (zPb l G gh (d + 4) n_X0_rentFrom p_X0_rentFrom) t_X0_rentFrom p_X0_rentFrom := ⟨s_X0_rentFrom_0 d, trivial⟩
def q_X0_rentFrom_0 : List (Nat × Nat) := [(259, zk8), (261, zk10), (262, zk10), (265, zk14), (266, zk33), (267, zk33), (268, zk34), (269, zk15), (270, zk19)]
noncomputable def al_X0_rentFrom_0 : zAq := [(some (.inl 9223372043297226851), [(259, zk8), (261, zk10), (262, zk10), (265, zk14), (266, zk33), (267, zk33), (268, zk34), (269, zk16), (270, zk21)])]
noncomputable def fm_X0_rentFrom_0 : List zFm := [(0, [], (fun vs => [.inr (.ref 259), .inl 8589934591, .inl 9223372043297226757, .inl 8589934591, .inl 8589934591, .inl 8589934591]), (fun vs => zP q_X0_rentFrom_0), (fun vs => Nat.sub (Nat.add 0 0) 0))]
def bf_X0_rentFrom_0 : List Nat := []
theorem r_X0_rentFrom_0_0 : zbox [] (fun vs => zFrun (zpost (zAlq al_X0_rentFrom_0)) 1000 t_X0_rentFrom fm_X0_rentFrom_0 bf_X0_rentFrom_0 (0, vs)) = true := by decide +kernel
set_option maxRecDepth 100000 in
theorem x_X0_rentFrom_0 (d : Nat) : zS l G gh (d + 4) (zpost (zAlq al_X0_rentFrom_0)) n_X0_rentFrom (zn 0 p_X0_rentFrom 0) (zwc (0, [.inr (.ref 259), .inl 8589934591, .inl 9223372043297226757, .inl 8589934591, .inl 8589934591, .inl 8589934591], zP q_X0_rentFrom_0) 0) := zentry (tt_X0_rentFrom d) fm_X0_rentFrom_0 bf_X0_rentFrom_0 1000 (by decide +kernel) rfl ⟨Nat.zero_lt_succ _, trivial⟩ (fun f hf => match f, hf with
  | 0, _ => fun vs hv => (zbox_t r_X0_rentFrom_0_0) vs hv
  | f + 1, h => absurd (show f + 1 < 1 from h) (Nat.not_lt.mpr (Nat.le_add_left 1 f)))
noncomputable def gs_X0_rentFrom_0 : zMt := zgq false [] 6 [.inr (.ref 259), .inl 8589934591, .inl 9223372043297226757, .inl 8589934591, .inl 8589934591, .inl 8589934591] q_X0_rentFrom_0 al_X0_rentFrom_0
set_option maxRecDepth 100000 in
theorem cs_X0_rentFrom_0 (d : Nat) : zC l G gh (d + 4) n_X0_rentFrom gs_X0_rentFrom_0 := zgq_ok0 (pcs := p_X0_rentFrom) (by decide) rfl rfl (fun a ha => by simp only [al_X0_rentFrom_0, List.mem_cons, List.not_mem_nil, or_false] at ha; rcases ha with rfl <;> decide +kernel) (fun gh => x_X0_rentFrom_0 d) (by decide +kernel)
def q_X0_rentFrom_1 : List (Nat × Nat) := [(9, zk6), (11, zk10), (12, zk10), (15, zk17), (16, zk33), (17, zk33), (18, zk34), (19, zk15), (20, zk19)]
noncomputable def al_X0_rentFrom_1 : zAq := [(some (.inl 9223372043297226851), [(9, zk6), (11, zk10), (12, zk10), (15, zk17), (16, zk33), (17, zk33), (18, zk34), (19, zk16), (20, zk21)])]
noncomputable def fm_X0_rentFrom_1 : List zFm := [(0, [], (fun vs => [.inr (.ref 9), .inl 8589934591, .inl 9223372043297226757, .inl 8589934591, .inl 8589934591, .inl 8589934591]), (fun vs => zP q_X0_rentFrom_1), (fun vs => Nat.sub (Nat.add 0 0) 0))]
def bf_X0_rentFrom_1 : List Nat := []
theorem r_X0_rentFrom_1_0 : zbox [] (fun vs => zFrun (zpost (zAlq al_X0_rentFrom_1)) 1000 t_X0_rentFrom fm_X0_rentFrom_1 bf_X0_rentFrom_1 (0, vs)) = true := by decide +kernel
set_option maxRecDepth 100000 in
theorem x_X0_rentFrom_1 (d : Nat) : zS l G gh (d + 4) (zpost (zAlq al_X0_rentFrom_1)) n_X0_rentFrom (zn 0 p_X0_rentFrom 0) (zwc (0, [.inr (.ref 9), .inl 8589934591, .inl 9223372043297226757, .inl 8589934591, .inl 8589934591, .inl 8589934591], zP q_X0_rentFrom_1) 0) := zentry (tt_X0_rentFrom d) fm_X0_rentFrom_1 bf_X0_rentFrom_1 1000 (by decide +kernel) rfl ⟨Nat.zero_lt_succ _, trivial⟩ (fun f hf => match f, hf with
  | 0, _ => fun vs hv => (zbox_t r_X0_rentFrom_1_0) vs hv
  | f + 1, h => absurd (show f + 1 < 1 from h) (Nat.not_lt.mpr (Nat.le_add_left 1 f)))
noncomputable def gs_X0_rentFrom_1 : zMt := zgq false [] 6 [.inr (.ref 9), .inl 8589934591, .inl 9223372043297226757, .inl 8589934591, .inl 8589934591, .inl 8589934591] q_X0_rentFrom_1 al_X0_rentFrom_1
set_option maxRecDepth 100000 in
theorem cs_X0_rentFrom_1 (d : Nat) : zC l G gh (d + 4) n_X0_rentFrom gs_X0_rentFrom_1 := zgq_ok0 (pcs := p_X0_rentFrom) (by decide) rfl rfl (fun a ha => by simp only [al_X0_rentFrom_1, List.mem_cons, List.not_mem_nil, or_false] at ha; rcases ha with rfl <;> decide +kernel) (fun gh => x_X0_rentFrom_1 d) (by decide +kernel)
noncomputable def gs_X0_rentFrom : zMt := (zor gs_X0_rentFrom_0 gs_X0_rentFrom_1)
theorem cs_X0_rentFrom (d : Nat) : zC l G gh (d + 4) n_X0_rentFrom gs_X0_rentFrom := (zor_ok (cs_X0_rentFrom_0 d) (cs_X0_rentFrom_1 d))
def n_X0_passLoan : qMn := (yX0_passLoan, cX0_passLoan, 9, none, 0, 0)
theorem to_X0_passLoan : qTo n_X0_passLoan 5 := ⟨g883, g105, ⟨by decide, by decide, by decide +kernel⟩, by decide⟩
def p_X0_passLoan : List Nat := [0, 21, 22, 58, 68, 119, 144, 163, 199]
noncomputable def b_X0_passLoan_0 : zBl := fun jp K => oIld 2 <| oIld 3 <| oCs 2 f_X8_loanOf <| oIst 6 <| oAld 1 <| oGetR 4 5 <| oIld 6 <| oXald 10 <| oIst 7 <| oNLC 7 2147483648 zneN zeqN zn1_ne zn1_eq (jp 2) (jp 1)
theorem s_X0_passLoan_0 (d : Nat) : zPb l G gh (d + 4) n_X0_passLoan p_X0_passLoan 0 b_X0_passLoan_0 := fun K jp hj =>
    z_iload_n (n := 2) (i := 2) (zd (i := .iload_n 2) (n := 1) (by decide +kernel)) rfl <|
    z_iload_n (n := 3) (i := 3) (zd (i := .iload_n 3) (n := 1) (by decide +kernel)) rfl <|
    z_callSN (idx := 109) (N := n_X8_loanOf) (host := "MirageLoans") (zd (i := .invokestatic 109) (n := 3) (by decide +kernel)) to_X8_loanOf (by decide +kernel) g765 rfl rfl (c_X8_loanOf (l := l) (G := G) (gh := gh) (d + 2)) <|
    z_istore (i := 6) (zd (i := .istore 6) (n := 2) (by decide +kernel)) (by decide +kernel) <|
    z_aload_n (n := 1) (i := 1) (zd (i := .aload_n 1) (n := 1) (by decide +kernel)) rfl <|
    z_getR (ci := 4) (j := 5) (idx := 112) (zd (i := .getfield 112) (n := 3) (by decide +kernel)) (by decide +kernel) (by decide +kernel) rfl g384 <|
    z_iload (i := 6) (zd (i := .iload 6) (n := 2) (by decide +kernel)) <|
    z_iald (zd (i := .iaload) (n := 1) (by decide +kernel)) <|
    z_istore (i := 7) (zd (i := .istore 7) (n := 2) (by decide +kernel)) (by decide +kernel) <|
    z_nL0_ne (i := 7) (a1 := 2) (off := 4) (tgt := 22) (zLd_w (i := 7) (zd (i := .iload 7) (n := 2) (by decide +kernel))) (zd (i := .ifCond .ne (4)) (n := 3) (by decide +kernel)) (by decide +kernel) (zj (hj 2) (by decide +kernel)) (zj (hj 1) (by decide +kernel))
noncomputable def b_X0_passLoan_1 : zBl := fun jp K => oVret K
theorem s_X0_passLoan_1 (d : Nat) : zPb l G gh (d + 4) n_X0_passLoan p_X0_passLoan 21 b_X0_passLoan_1 := fun K jp hj =>
    z_vret (zd (i := .return_) (n := 1) (by decide +kernel)) rfl
noncomputable def b_X0_passLoan_2 : zBl := fun jp K => oAld 0 <| oGetR 0 12 <| oAld 1 <| oGetI 4 0 <| oIld 4 <| oAld 1 <| oGetR 4 1 <| oIld 2 <| oXald 10 <| oAld 0 <| oGetR 0 3 <| oIld 3 <| oXald 10 <| oAld 0 <| oGetR 0 4 <| oIld 3 <| oXald 10 <| oCv 2 5 gs_X2_aim <| oNLC 5 2147483648 zneN zeqN zn1_ne zn1_eq (jp 5) (jp 3)
theorem s_X0_passLoan_2 (d : Nat) : zPb l G gh (d + 4) n_X0_passLoan p_X0_passLoan 22 b_X0_passLoan_2 := fun K jp hj =>
    z_aload_n (n := 0) (i := 0) (zd (i := .aload_n 0) (n := 1) (by decide +kernel)) rfl <|
    z_getR (ci := 0) (j := 12) (idx := 53) (zd (i := .getfield 53) (n := 3) (by decide +kernel)) (by decide +kernel) (by decide +kernel) rfl g304 <|
    z_aload_n (n := 1) (i := 1) (zd (i := .aload_n 1) (n := 1) (by decide +kernel)) rfl <|
    z_getI (ci := 4) (j := 0) (idx := 95) (zd (i := .getfield 95) (n := 3) (by decide +kernel)) (by decide +kernel) (by decide +kernel) rfl g369 <|
    z_iload (i := 4) (zd (i := .iload 4) (n := 2) (by decide +kernel)) <|
    z_aload_n (n := 1) (i := 1) (zd (i := .aload_n 1) (n := 1) (by decide +kernel)) rfl <|
    z_getR (ci := 4) (j := 1) (idx := 115) (zd (i := .getfield 115) (n := 3) (by decide +kernel)) (by decide +kernel) (by decide +kernel) rfl g372 <|
    z_iload_n (n := 2) (i := 2) (zd (i := .iload_n 2) (n := 1) (by decide +kernel)) rfl <|
    z_iald (zd (i := .iaload) (n := 1) (by decide +kernel)) <|
    z_aload_n (n := 0) (i := 0) (zd (i := .aload_n 0) (n := 1) (by decide +kernel)) rfl <|
    z_getR (ci := 0) (j := 3) (idx := 22) (zd (i := .getfield 22) (n := 3) (by decide +kernel)) (by decide +kernel) (by decide +kernel) rfl g281 <|
    z_iload_n (n := 3) (i := 3) (zd (i := .iload_n 3) (n := 1) (by decide +kernel)) rfl <|
    z_iald (zd (i := .iaload) (n := 1) (by decide +kernel)) <|
    z_aload_n (n := 0) (i := 0) (zd (i := .aload_n 0) (n := 1) (by decide +kernel)) rfl <|
    z_getR (ci := 0) (j := 4) (idx := 26) (zd (i := .getfield 26) (n := 3) (by decide +kernel)) (by decide +kernel) (by decide +kernel) rfl g283 <|
    z_iload_n (n := 3) (i := 3) (zd (i := .iload_n 3) (n := 1) (by decide +kernel)) rfl <|
    z_iald (zd (i := .iaload) (n := 1) (by decide +kernel)) <|
    z_callV (idx := 65) (ci := 2) (N := n_X2_aim) (zd (i := .invokevirtual 65) (n := 3) (by decide +kernel)) to_X2_aim g749 g750 g751 (by decide +kernel) rfl rfl rfl (cs_X2_aim (l := l) (G := G) (gh := gh) (d + 2)) <|
    z_nL0_ne (i := 5) (a1 := 2) (off := 64) (tgt := 119) (zLd_w (i := 5) (zd (i := .iload 5) (n := 2) (by decide +kernel))) (zd (i := .ifCond .ne (64)) (n := 3) (by decide +kernel)) (by decide +kernel) (zj (hj 5) (by decide +kernel)) (zj (hj 3) (by decide +kernel))
noncomputable def b_X0_passLoan_3 : zBl := fun jp K => oAld 0 <| oGetR 0 12 <| oCv 2 0 f_X2_isSeen <| oIf zeq zne (jp 5) (jp 4)
theorem s_X0_passLoan_3 (d : Nat) : zPb l G gh (d + 4) n_X0_passLoan p_X0_passLoan 58 b_X0_passLoan_3 := fun K jp hj =>
    z_aload_n (n := 0) (i := 0) (zd (i := .aload_n 0) (n := 1) (by decide +kernel)) rfl <|
    z_getR (ci := 0) (j := 12) (idx := 53) (zd (i := .getfield 53) (n := 3) (by decide +kernel)) (by decide +kernel) (by decide +kernel) rfl g304 <|
    z_callV (idx := 69) (ci := 2) (N := n_X2_isSeen) (zd (i := .invokevirtual 69) (n := 3) (by decide +kernel)) to_X2_isSeen g756 g757 g758 (by decide +kernel) rfl rfl rfl (c_X2_isSeen (l := l) (G := G) (gh := gh) (d)) <|
    z_if_eq (off := 54) (tgt := 119) (zd (i := .ifCond .eq (54)) (n := 3) (by decide +kernel)) (by decide +kernel) (zj (hj 5) (by decide +kernel)) (zj (hj 4) (by decide +kernel))
noncomputable def b_X0_passLoan_4 : zBl := fun jp K => oAld 0 <| oGetR 0 12 <| oIld 7 <| oCv 2 1 f_X2_rent <| oIst 8 <| oAld 1 <| oGetR 4 2 <| oIld 2 <| oInt 2147583647 <| oAld 1 <| oGetR 4 2 <| oIld 2 <| oXald 10 <| oIld 8 <| oB2 zadd <| oM2 zmin <| oXast 10 zid <| oAld 1 <| oGetR 4 4 <| oIld 2 <| oDup2 <| oXald 10 <| oIld 8 <| oB2 zadd <| oXast 10 zid <| oAld 1 <| oGetR 4 6 <| oIld 6 <| oInt 2147483648 <| oXast 10 zid <| oVret K
theorem s_X0_passLoan_4 (d : Nat) : zPb l G gh (d + 4) n_X0_passLoan p_X0_passLoan 68 b_X0_passLoan_4 := fun K jp hj =>
    z_aload_n (n := 0) (i := 0) (zd (i := .aload_n 0) (n := 1) (by decide +kernel)) rfl <|
    z_getR (ci := 0) (j := 12) (idx := 53) (zd (i := .getfield 53) (n := 3) (by decide +kernel)) (by decide +kernel) (by decide +kernel) rfl g304 <|
    z_iload (i := 7) (zd (i := .iload 7) (n := 2) (by decide +kernel)) <|
    z_callV (idx := 80) (ci := 2) (N := n_X2_rent) (zd (i := .invokevirtual 80) (n := 3) (by decide +kernel)) to_X2_rent g820 g821 g822 (by decide +kernel) rfl rfl rfl (c_X2_rent (l := l) (G := G) (gh := gh) (d)) <|
    z_istore (i := 8) (zd (i := .istore 8) (n := 2) (by decide +kernel)) (by decide +kernel) <|
    z_aload_n (n := 1) (i := 1) (zd (i := .aload_n 1) (n := 1) (by decide +kernel)) rfl <|
    z_getR (ci := 4) (j := 2) (idx := 118) (zd (i := .getfield 118) (n := 3) (by decide +kernel)) (by decide +kernel) (by decide +kernel) rfl g375 <|
    z_iload_n (n := 2) (i := 2) (zd (i := .iload_n 2) (n := 1) (by decide +kernel)) rfl <|
    z_ldc (n := 119) (zd (i := .ldc 119) (n := 2) (by decide +kernel)) g885 (by decide +kernel) <|
    z_aload_n (n := 1) (i := 1) (zd (i := .aload_n 1) (n := 1) (by decide +kernel)) rfl <|
    z_getR (ci := 4) (j := 2) (idx := 118) (zd (i := .getfield 118) (n := 3) (by decide +kernel)) (by decide +kernel) (by decide +kernel) rfl g375 <|
    z_iload_n (n := 2) (i := 2) (zd (i := .iload_n 2) (n := 1) (by decide +kernel)) rfl <|
    z_iald (zd (i := .iaload) (n := 1) (by decide +kernel)) <|
    z_iload (i := 8) (zd (i := .iload 8) (n := 2) (by decide +kernel)) <|
    z_iadd (zd (i := .iadd) (n := 1) (by decide +kernel)) <|
    z_min (idx := 120) (zd (i := .invokestatic 120) (n := 3) (by decide +kernel)) g886 g578 g111 g579 <|
    z_iast (zd (i := .iastore) (n := 1) (by decide +kernel)) <|
    z_aload_n (n := 1) (i := 1) (zd (i := .aload_n 1) (n := 1) (by decide +kernel)) rfl <|
    z_getR (ci := 4) (j := 4) (idx := 125) (zd (i := .getfield 125) (n := 3) (by decide +kernel)) (by decide +kernel) (by decide +kernel) rfl g381 <|
    z_iload_n (n := 2) (i := 2) (zd (i := .iload_n 2) (n := 1) (by decide +kernel)) rfl <|
    z_dup2 (zd (i := .dup2) (n := 1) (by decide +kernel)) <|
    z_iald (zd (i := .iaload) (n := 1) (by decide +kernel)) <|
    z_iload (i := 8) (zd (i := .iload 8) (n := 2) (by decide +kernel)) <|
    z_iadd (zd (i := .iadd) (n := 1) (by decide +kernel)) <|
    z_iast (zd (i := .iastore) (n := 1) (by decide +kernel)) <|
    z_aload_n (n := 1) (i := 1) (zd (i := .aload_n 1) (n := 1) (by decide +kernel)) rfl <|
    z_getR (ci := 4) (j := 6) (idx := 127) (zd (i := .getfield 127) (n := 3) (by decide +kernel)) (by decide +kernel) (by decide +kernel) rfl g387 <|
    z_iload (i := 6) (zd (i := .iload 6) (n := 2) (by decide +kernel)) <|
    z_iconst (n := 0) (zd (i := .iconst (0)) (n := 1) (by decide +kernel)) (by decide +kernel) <|
    z_iast (zd (i := .iastore) (n := 1) (by decide +kernel)) <|
    z_vret (zd (i := .return_) (n := 1) (by decide +kernel)) rfl
noncomputable def b_X0_passLoan_5 : zBl := fun jp K => oAld 1 <| oGetR 4 6 <| oIld 6 <| oDup2 <| oXald 10 <| oInt 2147483649 <| oB2 zadd <| oXast 10 zid <| oAld 1 <| oGetR 4 6 <| oIld 6 <| oXald 10 <| oAld 0 <| oGetI 0 8 <| oIc zlt zge (jp 7) (jp 6)
theorem s_X0_passLoan_5 (d : Nat) : zPb l G gh (d + 4) n_X0_passLoan p_X0_passLoan 119 b_X0_passLoan_5 := fun K jp hj =>
    z_aload_n (n := 1) (i := 1) (zd (i := .aload_n 1) (n := 1) (by decide +kernel)) rfl <|
    z_getR (ci := 4) (j := 6) (idx := 127) (zd (i := .getfield 127) (n := 3) (by decide +kernel)) (by decide +kernel) (by decide +kernel) rfl g387 <|
    z_iload (i := 6) (zd (i := .iload 6) (n := 2) (by decide +kernel)) <|
    z_dup2 (zd (i := .dup2) (n := 1) (by decide +kernel)) <|
    z_iald (zd (i := .iaload) (n := 1) (by decide +kernel)) <|
    z_iconst (n := 1) (zd (i := .iconst (1)) (n := 1) (by decide +kernel)) (by decide +kernel) <|
    z_iadd (zd (i := .iadd) (n := 1) (by decide +kernel)) <|
    z_iast (zd (i := .iastore) (n := 1) (by decide +kernel)) <|
    z_aload_n (n := 1) (i := 1) (zd (i := .aload_n 1) (n := 1) (by decide +kernel)) rfl <|
    z_getR (ci := 4) (j := 6) (idx := 127) (zd (i := .getfield 127) (n := 3) (by decide +kernel)) (by decide +kernel) (by decide +kernel) rfl g387 <|
    z_iload (i := 6) (zd (i := .iload 6) (n := 2) (by decide +kernel)) <|
    z_iald (zd (i := .iaload) (n := 1) (by decide +kernel)) <|
    z_aload_n (n := 0) (i := 0) (zd (i := .aload_n 0) (n := 1) (by decide +kernel)) rfl <|
    z_getI (ci := 0) (j := 8) (idx := 38) (zd (i := .getfield 38) (n := 3) (by decide +kernel)) (by decide +kernel) (by decide +kernel) rfl g293 <|
    z_icmp_lt (off := 22) (tgt := 163) (zd (i := .if_icmp .lt (22)) (n := 3) (by decide +kernel)) (by decide +kernel) (zj (hj 7) (by decide +kernel)) (zj (hj 6) (by decide +kernel))
noncomputable def b_X0_passLoan_6 : zBl := fun jp K => oAld 1 <| oIld 6 <| oCv 4 1 f_X4_end <| oAld 1 <| oGetR 4 3 <| oIld 2 <| oDup2 <| oXald 10 <| oInt 2147483649 <| oB2 zadd <| oXast 10 zid <| jp 8
theorem s_X0_passLoan_6 (d : Nat) : zPb l G gh (d + 4) n_X0_passLoan p_X0_passLoan 144 b_X0_passLoan_6 := fun K jp hj =>
    z_aload_n (n := 1) (i := 1) (zd (i := .aload_n 1) (n := 1) (by decide +kernel)) rfl <|
    z_iload (i := 6) (zd (i := .iload 6) (n := 2) (by decide +kernel)) <|
    z_callV (idx := 130) (ci := 4) (N := n_X4_end) (zd (i := .invokevirtual 130) (n := 3) (by decide +kernel)) to_X4_end g887 g693 g694 (by decide +kernel) rfl rfl rfl (c_X4_end (l := l) (G := G) (gh := gh) (d + 2)) <|
    z_aload_n (n := 1) (i := 1) (zd (i := .aload_n 1) (n := 1) (by decide +kernel)) rfl <|
    z_getR (ci := 4) (j := 3) (idx := 134) (zd (i := .getfield 134) (n := 3) (by decide +kernel)) (by decide +kernel) (by decide +kernel) rfl g378 <|
    z_iload_n (n := 2) (i := 2) (zd (i := .iload_n 2) (n := 1) (by decide +kernel)) rfl <|
    z_dup2 (zd (i := .dup2) (n := 1) (by decide +kernel)) <|
    z_iald (zd (i := .iaload) (n := 1) (by decide +kernel)) <|
    z_iconst (n := 1) (zd (i := .iconst (1)) (n := 1) (by decide +kernel)) (by decide +kernel) <|
    z_iadd (zd (i := .iadd) (n := 1) (by decide +kernel)) <|
    z_iast (zd (i := .iastore) (n := 1) (by decide +kernel)) <|
    z_goto (off := 39) (tgt := 199) (zd (i := .goto (39)) (n := 3) (by decide +kernel)) (by decide +kernel) (zj (hj 8) (by decide +kernel))
noncomputable def b_X0_passLoan_7 : zBl := fun jp K => oAld 1 <| oGetR 4 5 <| oIld 6 <| oInt 2147583647 <| oIld 7 <| oIld 7 <| oAld 0 <| oGetR 0 12 <| oAld 1 <| oGetI 4 0 <| oIld 4 <| oIld 7 <| oCv 2 3 f_X2_interest <| oB2 zimul <| oInt 2147483748 <| oB2z zidiv <| oB2 zadd <| oM2 zmin <| oXast 10 zid <| jp 8
theorem s_X0_passLoan_7 (d : Nat) : zPb l G gh (d + 4) n_X0_passLoan p_X0_passLoan 163 b_X0_passLoan_7 := fun K jp hj =>
    z_aload_n (n := 1) (i := 1) (zd (i := .aload_n 1) (n := 1) (by decide +kernel)) rfl <|
    z_getR (ci := 4) (j := 5) (idx := 112) (zd (i := .getfield 112) (n := 3) (by decide +kernel)) (by decide +kernel) (by decide +kernel) rfl g384 <|
    z_iload (i := 6) (zd (i := .iload 6) (n := 2) (by decide +kernel)) <|
    z_ldc (n := 119) (zd (i := .ldc 119) (n := 2) (by decide +kernel)) g885 (by decide +kernel) <|
    z_iload (i := 7) (zd (i := .iload 7) (n := 2) (by decide +kernel)) <|
    z_iload (i := 7) (zd (i := .iload 7) (n := 2) (by decide +kernel)) <|
    z_aload_n (n := 0) (i := 0) (zd (i := .aload_n 0) (n := 1) (by decide +kernel)) rfl <|
    z_getR (ci := 0) (j := 12) (idx := 53) (zd (i := .getfield 53) (n := 3) (by decide +kernel)) (by decide +kernel) (by decide +kernel) rfl g304 <|
    z_aload_n (n := 1) (i := 1) (zd (i := .aload_n 1) (n := 1) (by decide +kernel)) rfl <|
    z_getI (ci := 4) (j := 0) (idx := 95) (zd (i := .getfield 95) (n := 3) (by decide +kernel)) (by decide +kernel) (by decide +kernel) rfl g369 <|
    z_iload (i := 4) (zd (i := .iload 4) (n := 2) (by decide +kernel)) <|
    z_iload (i := 7) (zd (i := .iload 7) (n := 2) (by decide +kernel)) <|
    z_callV (idx := 137) (ci := 2) (N := n_X2_interest) (zd (i := .invokevirtual 137) (n := 3) (by decide +kernel)) to_X2_interest g888 g825 g826 (by decide +kernel) rfl rfl rfl (c_X2_interest (l := l) (G := G) (gh := gh) (d)) <|
    z_imul (zd (i := .imul) (n := 1) (by decide +kernel)) <|
    z_bipush (n := 100) (zd (i := .bipush (100)) (n := 2) (by decide +kernel)) (by decide +kernel) <|
    z_idiv (zd (i := .idiv) (n := 1) (by decide +kernel)) <|
    z_iadd (zd (i := .iadd) (n := 1) (by decide +kernel)) <|
    z_min (idx := 120) (zd (i := .invokestatic 120) (n := 3) (by decide +kernel)) g886 g578 g111 g579 <|
    z_iast (zd (i := .iastore) (n := 1) (by decide +kernel)) <|
    (zj (hj 8) (by decide +kernel))
noncomputable def b_X0_passLoan_8 : zBl := fun jp K => oVret K
theorem s_X0_passLoan_8 (d : Nat) : zPb l G gh (d + 4) n_X0_passLoan p_X0_passLoan 199 b_X0_passLoan_8 := fun K jp hj =>
    z_vret (zd (i := .return_) (n := 1) (by decide +kernel)) rfl
noncomputable def t_X0_passLoan : List zBl := [b_X0_passLoan_0, b_X0_passLoan_1, b_X0_passLoan_2, b_X0_passLoan_3, b_X0_passLoan_4, b_X0_passLoan_5, b_X0_passLoan_6, b_X0_passLoan_7, b_X0_passLoan_8]
theorem tt_X0_passLoan (d : Nat) : zT (zPb l G gh (d + 4) n_X0_passLoan p_X0_passLoan) t_X0_passLoan p_X0_passLoan := ⟨s_X0_passLoan_0 d, s_X0_passLoan_1 d, s_X0_passLoan_2 d, s_X0_passLoan_3 d, s_X0_passLoan_4 d, s_X0_passLoan_5 d, s_X0_passLoan_6 d, s_X0_passLoan_7 d, s_X0_passLoan_8 d, trivial⟩
def q_X0_passLoan_0 : List (Nat × Nat) := [(21, zk22), (22, zk10), (23, zk10), (24, zk10), (25, zk10), (26, zk23), (27, zk23), (259, zk8), (261, zk10), (262, zk10), (265, zk14), (266, zk33), (267, zk33), (268, zk34), (269, zk15), (270, zk19)]
noncomputable def al_X0_passLoan_0 : zAq := [(none, [(21, zk22), (22, zk10), (23, zk11), (24, zk11), (25, zk11), (26, zk31), (27, zk31), (259, zk8), (261, zk10), (262, zk10), (265, zk14), (266, zk33), (267, zk33), (268, zk34), (269, zk16), (270, zk21)])]
noncomputable def fm_X0_passLoan_0 : List zFm := [(0, [], (fun vs => [.inr (.ref 259), .inr (.ref 21), .inl 9223372043297226757, .inl 9223372043297226757, .inl 8589934591, .inl 9223372043297226753]), (fun vs => zP q_X0_passLoan_0), (fun vs => Nat.sub (Nat.add 0 0) 0))]
def bf_X0_passLoan_0 : List Nat := []
theorem r_X0_passLoan_0_0 : zbox [] (fun vs => zFrun (zpost (zAlq al_X0_passLoan_0)) 1000 t_X0_passLoan fm_X0_passLoan_0 bf_X0_passLoan_0 (0, vs)) = true := by decide +kernel
set_option maxRecDepth 100000 in
theorem x_X0_passLoan_0 (d : Nat) : zS l G gh (d + 4) (zpost (zAlq al_X0_passLoan_0)) n_X0_passLoan (zn 0 p_X0_passLoan 0) (zwc (0, [.inr (.ref 259), .inr (.ref 21), .inl 9223372043297226757, .inl 9223372043297226757, .inl 8589934591, .inl 9223372043297226753], zP q_X0_passLoan_0) 0) := zentry (tt_X0_passLoan d) fm_X0_passLoan_0 bf_X0_passLoan_0 1000 (by decide +kernel) rfl ⟨Nat.zero_lt_succ _, trivial⟩ (fun f hf => match f, hf with
  | 0, _ => fun vs hv => (zbox_t r_X0_passLoan_0_0) vs hv
  | f + 1, h => absurd (show f + 1 < 1 from h) (Nat.not_lt.mpr (Nat.le_add_left 1 f)))
noncomputable def gs_X0_passLoan_0 : zMt := zgq false [] 9 [.inr (.ref 259), .inr (.ref 21), .inl 9223372043297226757, .inl 9223372043297226757, .inl 8589934591, .inl 9223372043297226753] q_X0_passLoan_0 al_X0_passLoan_0
set_option maxRecDepth 100000 in
theorem cs_X0_passLoan_0 (d : Nat) : zC l G gh (d + 4) n_X0_passLoan gs_X0_passLoan_0 := zgq_ok0 (pcs := p_X0_passLoan) (by decide) rfl rfl (fun a ha => by simp only [al_X0_passLoan_0, List.mem_cons, List.not_mem_nil, or_false] at ha; rcases ha with rfl <;> decide +kernel) (fun gh => x_X0_passLoan_0 d) (by decide +kernel)
def q_X0_passLoan_1 : List (Nat × Nat) := [(9, zk6), (11, zk10), (12, zk10), (15, zk17), (16, zk33), (17, zk33), (18, zk34), (19, zk15), (20, zk19), (21, zk22), (22, zk10), (23, zk10), (24, zk10), (25, zk10), (26, zk23), (27, zk23)]
noncomputable def al_X0_passLoan_1 : zAq := [(none, [(9, zk6), (11, zk10), (12, zk10), (15, zk17), (16, zk33), (17, zk33), (18, zk34), (19, zk16), (20, zk21), (21, zk22), (22, zk10), (23, zk11), (24, zk11), (25, zk11), (26, zk31), (27, zk31)])]
noncomputable def fm_X0_passLoan_1 : List zFm := [(0, [], (fun vs => [.inr (.ref 9), .inr (.ref 21), .inl 9223372043297226757, .inl 9223372043297226757, .inl 8589934591, .inl 9223372043297226753]), (fun vs => zP q_X0_passLoan_1), (fun vs => Nat.sub (Nat.add 0 0) 0))]
def bf_X0_passLoan_1 : List Nat := []
theorem r_X0_passLoan_1_0 : zbox [] (fun vs => zFrun (zpost (zAlq al_X0_passLoan_1)) 1000 t_X0_passLoan fm_X0_passLoan_1 bf_X0_passLoan_1 (0, vs)) = true := by decide +kernel
set_option maxRecDepth 100000 in
theorem x_X0_passLoan_1 (d : Nat) : zS l G gh (d + 4) (zpost (zAlq al_X0_passLoan_1)) n_X0_passLoan (zn 0 p_X0_passLoan 0) (zwc (0, [.inr (.ref 9), .inr (.ref 21), .inl 9223372043297226757, .inl 9223372043297226757, .inl 8589934591, .inl 9223372043297226753], zP q_X0_passLoan_1) 0) := zentry (tt_X0_passLoan d) fm_X0_passLoan_1 bf_X0_passLoan_1 1000 (by decide +kernel) rfl ⟨Nat.zero_lt_succ _, trivial⟩ (fun f hf => match f, hf with
  | 0, _ => fun vs hv => (zbox_t r_X0_passLoan_1_0) vs hv
  | f + 1, h => absurd (show f + 1 < 1 from h) (Nat.not_lt.mpr (Nat.le_add_left 1 f)))
noncomputable def gs_X0_passLoan_1 : zMt := zgq false [] 9 [.inr (.ref 9), .inr (.ref 21), .inl 9223372043297226757, .inl 9223372043297226757, .inl 8589934591, .inl 9223372043297226753] q_X0_passLoan_1 al_X0_passLoan_1
set_option maxRecDepth 100000 in
theorem cs_X0_passLoan_1 (d : Nat) : zC l G gh (d + 4) n_X0_passLoan gs_X0_passLoan_1 := zgq_ok0 (pcs := p_X0_passLoan) (by decide) rfl rfl (fun a ha => by simp only [al_X0_passLoan_1, List.mem_cons, List.not_mem_nil, or_false] at ha; rcases ha with rfl <;> decide +kernel) (fun gh => x_X0_passLoan_1 d) (by decide +kernel)
def q_X0_passLoan_2 : List (Nat × Nat) := [(28, zk32), (29, zk10), (30, zk10), (31, zk10), (32, zk10), (33, zk23), (34, zk23), (259, zk8), (261, zk10), (262, zk10), (265, zk14), (266, zk33), (267, zk33), (268, zk34), (269, zk15), (270, zk19)]
noncomputable def al_X0_passLoan_2 : zAq := [(none, [(28, zk32), (29, zk10), (30, zk11), (31, zk11), (32, zk11), (33, zk31), (34, zk31), (259, zk8), (261, zk10), (262, zk10), (265, zk14), (266, zk33), (267, zk33), (268, zk34), (269, zk16), (270, zk21)])]
noncomputable def fm_X0_passLoan_2 : List zFm := [(0, [], (fun vs => [.inr (.ref 259), .inr (.ref 28), .inl 9223372043297226757, .inl 9223372043297226757, .inl 8589934591, .inl 9223372043297226753]), (fun vs => zP q_X0_passLoan_2), (fun vs => Nat.sub (Nat.add 0 0) 0))]
def bf_X0_passLoan_2 : List Nat := []
theorem r_X0_passLoan_2_0 : zbox [] (fun vs => zFrun (zpost (zAlq al_X0_passLoan_2)) 1000 t_X0_passLoan fm_X0_passLoan_2 bf_X0_passLoan_2 (0, vs)) = true := by decide +kernel
set_option maxRecDepth 100000 in
theorem x_X0_passLoan_2 (d : Nat) : zS l G gh (d + 4) (zpost (zAlq al_X0_passLoan_2)) n_X0_passLoan (zn 0 p_X0_passLoan 0) (zwc (0, [.inr (.ref 259), .inr (.ref 28), .inl 9223372043297226757, .inl 9223372043297226757, .inl 8589934591, .inl 9223372043297226753], zP q_X0_passLoan_2) 0) := zentry (tt_X0_passLoan d) fm_X0_passLoan_2 bf_X0_passLoan_2 1000 (by decide +kernel) rfl ⟨Nat.zero_lt_succ _, trivial⟩ (fun f hf => match f, hf with
  | 0, _ => fun vs hv => (zbox_t r_X0_passLoan_2_0) vs hv
  | f + 1, h => absurd (show f + 1 < 1 from h) (Nat.not_lt.mpr (Nat.le_add_left 1 f)))
noncomputable def gs_X0_passLoan_2 : zMt := zgq false [] 9 [.inr (.ref 259), .inr (.ref 28), .inl 9223372043297226757, .inl 9223372043297226757, .inl 8589934591, .inl 9223372043297226753] q_X0_passLoan_2 al_X0_passLoan_2
set_option maxRecDepth 100000 in
theorem cs_X0_passLoan_2 (d : Nat) : zC l G gh (d + 4) n_X0_passLoan gs_X0_passLoan_2 := zgq_ok0 (pcs := p_X0_passLoan) (by decide) rfl rfl (fun a ha => by simp only [al_X0_passLoan_2, List.mem_cons, List.not_mem_nil, or_false] at ha; rcases ha with rfl <;> decide +kernel) (fun gh => x_X0_passLoan_2 d) (by decide +kernel)
def q_X0_passLoan_3 : List (Nat × Nat) := [(9, zk6), (11, zk10), (12, zk10), (15, zk17), (16, zk33), (17, zk33), (18, zk34), (19, zk15), (20, zk19), (28, zk32), (29, zk10), (30, zk10), (31, zk10), (32, zk10), (33, zk23), (34, zk23)]
noncomputable def al_X0_passLoan_3 : zAq := [(none, [(9, zk6), (11, zk10), (12, zk10), (15, zk17), (16, zk33), (17, zk33), (18, zk34), (19, zk16), (20, zk21), (28, zk32), (29, zk10), (30, zk11), (31, zk11), (32, zk11), (33, zk31), (34, zk31)])]
noncomputable def fm_X0_passLoan_3 : List zFm := [(0, [], (fun vs => [.inr (.ref 9), .inr (.ref 28), .inl 9223372043297226757, .inl 9223372043297226757, .inl 8589934591, .inl 9223372043297226753]), (fun vs => zP q_X0_passLoan_3), (fun vs => Nat.sub (Nat.add 0 0) 0))]
def bf_X0_passLoan_3 : List Nat := []
theorem r_X0_passLoan_3_0 : zbox [] (fun vs => zFrun (zpost (zAlq al_X0_passLoan_3)) 1000 t_X0_passLoan fm_X0_passLoan_3 bf_X0_passLoan_3 (0, vs)) = true := by decide +kernel
set_option maxRecDepth 100000 in
theorem x_X0_passLoan_3 (d : Nat) : zS l G gh (d + 4) (zpost (zAlq al_X0_passLoan_3)) n_X0_passLoan (zn 0 p_X0_passLoan 0) (zwc (0, [.inr (.ref 9), .inr (.ref 28), .inl 9223372043297226757, .inl 9223372043297226757, .inl 8589934591, .inl 9223372043297226753], zP q_X0_passLoan_3) 0) := zentry (tt_X0_passLoan d) fm_X0_passLoan_3 bf_X0_passLoan_3 1000 (by decide +kernel) rfl ⟨Nat.zero_lt_succ _, trivial⟩ (fun f hf => match f, hf with
  | 0, _ => fun vs hv => (zbox_t r_X0_passLoan_3_0) vs hv
  | f + 1, h => absurd (show f + 1 < 1 from h) (Nat.not_lt.mpr (Nat.le_add_left 1 f)))
noncomputable def gs_X0_passLoan_3 : zMt := zgq false [] 9 [.inr (.ref 9), .inr (.ref 28), .inl 9223372043297226757, .inl 9223372043297226757, .inl 8589934591, .inl 9223372043297226753] q_X0_passLoan_3 al_X0_passLoan_3
set_option maxRecDepth 100000 in
theorem cs_X0_passLoan_3 (d : Nat) : zC l G gh (d + 4) n_X0_passLoan gs_X0_passLoan_3 := zgq_ok0 (pcs := p_X0_passLoan) (by decide) rfl rfl (fun a ha => by simp only [al_X0_passLoan_3, List.mem_cons, List.not_mem_nil, or_false] at ha; rcases ha with rfl <;> decide +kernel) (fun gh => x_X0_passLoan_3 d) (by decide +kernel)
noncomputable def gs_X0_passLoan : zMt := (zor gs_X0_passLoan_0 (zor gs_X0_passLoan_1 (zor gs_X0_passLoan_2 gs_X0_passLoan_3)))
theorem cs_X0_passLoan (d : Nat) : zC l G gh (d + 4) n_X0_passLoan gs_X0_passLoan := (zor_ok (cs_X0_passLoan_0 d) (zor_ok (cs_X0_passLoan_1 d) (zor_ok (cs_X0_passLoan_2 d) (cs_X0_passLoan_3 d))))
def n_X2_spot : qMn := (yX2_spot, cX2_spot, 2, (some Jvm.ClassFile.FieldType.int), 0, 0)
theorem to_X2_spot : qTo n_X2_spot 0 := ⟨g908, g106, ⟨by decide, by decide, by decide +kernel⟩, by decide⟩
def p_X2_spot : List Nat := [0, 7, 9, 25, 32, 37]
noncomputable def b_X2_spot_0 : zBl := fun jp K => oAld 0 <| oCv 2 0 f_X2_isSeen <| oIf zne zeq (jp 2) (jp 1)
theorem s_X2_spot_0 (d : Nat) : zPb l G gh (d + 4) n_X2_spot p_X2_spot 0 b_X2_spot_0 := fun K jp hj =>
    z_aload_n (n := 0) (i := 0) (zd (i := .aload_n 0) (n := 1) (by decide +kernel)) rfl <|
    z_callV (idx := 59) (ci := 2) (N := n_X2_isSeen) (zd (i := .invokevirtual 59) (n := 3) (by decide +kernel)) to_X2_isSeen g909 g757 g758 (by decide +kernel) rfl rfl rfl (c_X2_isSeen (l := l) (G := G) (gh := gh) (d)) <|
    z_if_ne (off := 5) (tgt := 9) (zd (i := .ifCond .ne (5)) (n := 3) (by decide +kernel)) (by decide +kernel) (zj (hj 2) (by decide +kernel)) (zj (hj 1) (by decide +kernel))
noncomputable def b_X2_spot_1 : zBl := fun jp K => oInt 2147483647 <| oIret K
theorem s_X2_spot_1 (d : Nat) : zPb l G gh (d + 4) n_X2_spot p_X2_spot 7 b_X2_spot_1 := fun K jp hj =>
    z_iconst (n := -1) (zd (i := .iconst (-1)) (n := 1) (by decide +kernel)) (by decide +kernel) <|
    z_iret (zd (i := .ireturn) (n := 1) (by decide +kernel)) rfl
noncomputable def b_X2_spot_2 : zBl := fun jp K => oAld 0 <| oGetR 2 4 <| oInt 2147483653 <| oXald 10 <| oAld 0 <| oGetR 2 4 <| oInt 2147483656 <| oXald 10 <| oIc zlt zge (jp 4) (jp 3)
theorem s_X2_spot_2 (d : Nat) : zPb l G gh (d + 4) n_X2_spot p_X2_spot 9 b_X2_spot_2 := fun K jp hj =>
    z_aload_n (n := 0) (i := 0) (zd (i := .aload_n 0) (n := 1) (by decide +kernel)) rfl <|
    z_getR (ci := 2) (j := 4) (idx := 25) (zd (i := .getfield 25) (n := 3) (by decide +kernel)) (by decide +kernel) (by decide +kernel) rfl g241 <|
    z_iconst (n := 5) (zd (i := .iconst (5)) (n := 1) (by decide +kernel)) (by decide +kernel) <|
    z_iald (zd (i := .iaload) (n := 1) (by decide +kernel)) <|
    z_aload_n (n := 0) (i := 0) (zd (i := .aload_n 0) (n := 1) (by decide +kernel)) rfl <|
    z_getR (ci := 2) (j := 4) (idx := 25) (zd (i := .getfield 25) (n := 3) (by decide +kernel)) (by decide +kernel) (by decide +kernel) rfl g241 <|
    z_bipush (n := 8) (zd (i := .bipush (8)) (n := 2) (by decide +kernel)) (by decide +kernel) <|
    z_iald (zd (i := .iaload) (n := 1) (by decide +kernel)) <|
    z_icmp_lt (off := 10) (tgt := 32) (zd (i := .if_icmp .lt (10)) (n := 3) (by decide +kernel)) (by decide +kernel) (zj (hj 4) (by decide +kernel)) (zj (hj 3) (by decide +kernel))
noncomputable def b_X2_spot_3 : zBl := fun jp K => oAld 0 <| oCv 2 0 f_X2_moved <| jp 5
theorem s_X2_spot_3 (d : Nat) : zPb l G gh (d + 4) n_X2_spot p_X2_spot 25 b_X2_spot_3 := fun K jp hj =>
    z_aload_n (n := 0) (i := 0) (zd (i := .aload_n 0) (n := 1) (by decide +kernel)) rfl <|
    z_callV (idx := 63) (ci := 2) (N := n_X2_moved) (zd (i := .invokevirtual 63) (n := 3) (by decide +kernel)) to_X2_moved g910 g813 g814 (by decide +kernel) rfl rfl rfl (c_X2_moved (l := l) (G := G) (gh := gh) (d)) <|
    z_goto (off := 8) (tgt := 37) (zd (i := .goto (8)) (n := 3) (by decide +kernel)) (by decide +kernel) (zj (hj 5) (by decide +kernel))
noncomputable def b_X2_spot_4 : zBl := fun jp K => oAld 0 <| oCv 2 0 f_X2_moved <| oU zineg <| jp 5
theorem s_X2_spot_4 (d : Nat) : zPb l G gh (d + 4) n_X2_spot p_X2_spot 32 b_X2_spot_4 := fun K jp hj =>
    z_aload_n (n := 0) (i := 0) (zd (i := .aload_n 0) (n := 1) (by decide +kernel)) rfl <|
    z_callV (idx := 63) (ci := 2) (N := n_X2_moved) (zd (i := .invokevirtual 63) (n := 3) (by decide +kernel)) to_X2_moved g910 g813 g814 (by decide +kernel) rfl rfl rfl (c_X2_moved (l := l) (G := G) (gh := gh) (d)) <|
    z_ineg (zd (i := .ineg) (n := 1) (by decide +kernel)) <|
    (zj (hj 5) (by decide +kernel))
noncomputable def b_X2_spot_5 : zBl := fun jp K => oIst 1 <| oInt 2147483648 <| oAld 0 <| oGetR 2 4 <| oInt 2147483653 <| oXald 10 <| oIld 1 <| oB2 zadd <| oInt 2147483667 <| oCs 3 f_X8_within <| oIret K
theorem s_X2_spot_5 (d : Nat) : zPb l G gh (d + 4) n_X2_spot p_X2_spot 37 b_X2_spot_5 := fun K jp hj =>
    z_istore_n (n := 1) (i := 1) (zd (i := .istore_n 1) (n := 1) (by decide +kernel)) rfl (by decide +kernel) <|
    z_iconst (n := 0) (zd (i := .iconst (0)) (n := 1) (by decide +kernel)) (by decide +kernel) <|
    z_aload_n (n := 0) (i := 0) (zd (i := .aload_n 0) (n := 1) (by decide +kernel)) rfl <|
    z_getR (ci := 2) (j := 4) (idx := 25) (zd (i := .getfield 25) (n := 3) (by decide +kernel)) (by decide +kernel) (by decide +kernel) rfl g241 <|
    z_iconst (n := 5) (zd (i := .iconst (5)) (n := 1) (by decide +kernel)) (by decide +kernel) <|
    z_iald (zd (i := .iaload) (n := 1) (by decide +kernel)) <|
    z_iload_n (n := 1) (i := 1) (zd (i := .iload_n 1) (n := 1) (by decide +kernel)) rfl <|
    z_iadd (zd (i := .iadd) (n := 1) (by decide +kernel)) <|
    z_bipush (n := 19) (zd (i := .bipush (19)) (n := 2) (by decide +kernel)) (by decide +kernel) <|
    z_callSN (idx := 50) (N := n_X8_within) (host := "MirageLoans") (zd (i := .invokestatic 50) (n := 3) (by decide +kernel)) to_X8_within (by decide +kernel) g741 rfl rfl (c_X8_within (l := l) (G := G) (gh := gh) (d + 2)) <|
    z_iret (zd (i := .ireturn) (n := 1) (by decide +kernel)) rfl
noncomputable def t_X2_spot : List zBl := [b_X2_spot_0, b_X2_spot_1, b_X2_spot_2, b_X2_spot_3, b_X2_spot_4, b_X2_spot_5]
theorem tt_X2_spot (d : Nat) : zT (zPb l G gh (d + 4) n_X2_spot p_X2_spot) t_X2_spot p_X2_spot := ⟨s_X2_spot_0 d, s_X2_spot_1 d, s_X2_spot_2 d, s_X2_spot_3 d, s_X2_spot_4 d, s_X2_spot_5 d, trivial⟩
noncomputable def f_X2_spot : zMt := zmet 2 t_X2_spot
theorem c_X2_spot (d : Nat) : zC l G gh (d + 4) n_X2_spot f_X2_spot := zmet_ok (pcs := p_X2_spot) (by decide) rfl rfl (tt_X2_spot d)
end
