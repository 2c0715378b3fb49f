section
variable {l : Launch} {G : qG} {gh : zGh}
def p_X8_umbrellas : List Nat := [0, 5, 10, 15, 20, 22, 33, 37, 43]
noncomputable def b_X8_umbrellas_0 : zBl := fun jp K => oNLC 1 2147483649 zltN zgeN zn1_lt zn1_ge (jp 4) (jp 1)
theorem s_X8_umbrellas_0 (d : Nat) : zPb l G gh (d + 8) n_X8_umbrellas p_X8_umbrellas 0 b_X8_umbrellas_0 := fun K jp hj =>
    z_nLC_lt (i := 1) (c0 := 2147483649) (a1 := 1) (a2 := 1) (off := 18) (tgt := 20) (zLd_n (n := 1) (i := 1) (zd (i := .iload_n 1) (n := 1) (by decide +kernel)) rfl) (zCn_c (n := 1) (zd (i := .iconst (1)) (n := 1) (by decide +kernel)) (by decide +kernel)) (zd (i := .if_icmp .lt (18)) (n := 3) (by decide +kernel)) (by decide +kernel) (zj (hj 4) (by decide +kernel)) (zj (hj 1) (by decide +kernel))
noncomputable def b_X8_umbrellas_1 : zBl := fun jp K => oNLC 1 2147483651 zgtN zleN zn1_gt zn1_le (jp 4) (jp 2)
theorem s_X8_umbrellas_1 (d : Nat) : zPb l G gh (d + 8) n_X8_umbrellas p_X8_umbrellas 5 b_X8_umbrellas_1 := fun K jp hj =>
    z_nLC_gt (i := 1) (c0 := 2147483651) (a1 := 1) (a2 := 1) (off := 13) (tgt := 20) (zLd_n (n := 1) (i := 1) (zd (i := .iload_n 1) (n := 1) (by decide +kernel)) rfl) (zCn_c (n := 3) (zd (i := .iconst (3)) (n := 1) (by decide +kernel)) (by decide +kernel)) (zd (i := .if_icmp .gt (13)) (n := 3) (by decide +kernel)) (by decide +kernel) (zj (hj 4) (by decide +kernel)) (zj (hj 2) (by decide +kernel))
noncomputable def b_X8_umbrellas_2 : zBl := fun jp K => oNLC 2 2147483647 zltN zgeN zn1_lt zn1_ge (jp 4) (jp 3)
theorem s_X8_umbrellas_2 (d : Nat) : zPb l G gh (d + 8) n_X8_umbrellas p_X8_umbrellas 10 b_X8_umbrellas_2 := fun K jp hj =>
    z_nLC_lt (i := 2) (c0 := 2147483647) (a1 := 1) (a2 := 1) (off := 8) (tgt := 20) (zLd_n (n := 2) (i := 2) (zd (i := .iload_n 2) (n := 1) (by decide +kernel)) rfl) (zCn_c (n := -1) (zd (i := .iconst (-1)) (n := 1) (by decide +kernel)) (by decide +kernel)) (zd (i := .if_icmp .lt (8)) (n := 3) (by decide +kernel)) (by decide +kernel) (zj (hj 4) (by decide +kernel)) (zj (hj 3) (by decide +kernel))
noncomputable def b_X8_umbrellas_3 : zBl := fun jp K => oNLL 2 1 zltN zgeN zn1_lt zn2_lt zn1_ge zn2_ge (jp 5) (jp 4)
theorem s_X8_umbrellas_3 (d : Nat) : zPb l G gh (d + 8) n_X8_umbrellas p_X8_umbrellas 15 b_X8_umbrellas_3 := fun K jp hj =>
    z_nLL_lt (i := 2) (j := 1) (a1 := 1) (a2 := 1) (off := 5) (tgt := 22) (zLd_n (n := 2) (i := 2) (zd (i := .iload_n 2) (n := 1) (by decide +kernel)) rfl) (zLd_n (n := 1) (i := 1) (zd (i := .iload_n 1) (n := 1) (by decide +kernel)) rfl) (zd (i := .if_icmp .lt (5)) (n := 3) (by decide +kernel)) (by decide +kernel) (zj (hj 5) (by decide +kernel)) (zj (hj 4) (by decide +kernel))
noncomputable def b_X8_umbrellas_4 : zBl := fun jp K => oInt 2147483647 <| oIret K
theorem s_X8_umbrellas_4 (d : Nat) : zPb l G gh (d + 8) n_X8_umbrellas p_X8_umbrellas 20 b_X8_umbrellas_4 := fun K jp hj =>
    z_iconst (n := -1) (zd (i := .iconst (-1)) (n := 1) (by decide +kernel)) (by decide +kernel) <|
    z_iret (zd (i := .ireturn) (n := 1) (by decide +kernel)) rfl
noncomputable def b_X8_umbrellas_5 : zBl := fun jp K => oAld 0 <| oIld 1 <| oCv 8 1 gs_X8_pitchUmbrellas <| oIst 3 <| oNLC 2 2147483647 zneN zeqN zn1_ne zn1_eq (jp 7) (jp 6)
theorem s_X8_umbrellas_5 (d : Nat) : zPb l G gh (d + 8) n_X8_umbrellas p_X8_umbrellas 22 b_X8_umbrellas_5 := fun K jp hj =>
    z_aload_n (n := 0) (i := 0) (zd (i := .aload_n 0) (n := 1) (by decide +kernel)) rfl <|
    z_iload_n (n := 1) (i := 1) (zd (i := .iload_n 1) (n := 1) (by decide +kernel)) rfl <|
    z_callV (idx := 261) (ci := 8) (N := n_X8_pitchUmbrellas) (zd (i := .invokevirtual 261) (n := 3) (by decide +kernel)) to_X8_pitchUmbrellas g966 g968 g33 (by decide +kernel) rfl rfl rfl (cs_X8_pitchUmbrellas (l := l) (G := G) (gh := gh) (d)) <|
    z_istore_n (n := 3) (i := 3) (zd (i := .istore_n 3) (n := 1) (by decide +kernel)) rfl (by decide +kernel) <|
    z_nLC_ne (i := 2) (c0 := 2147483647) (a1 := 1) (a2 := 1) (off := 7) (tgt := 37) (zLd_n (n := 2) (i := 2) (zd (i := .iload_n 2) (n := 1) (by decide +kernel)) rfl) (zCn_c (n := -1) (zd (i := .iconst (-1)) (n := 1) (by decide +kernel)) (by decide +kernel)) (zd (i := .if_icmp .ne (7)) (n := 3) (by decide +kernel)) (by decide +kernel) (zj (hj 7) (by decide +kernel)) (zj (hj 6) (by decide +kernel))
noncomputable def b_X8_umbrellas_6 : zBl := fun jp K => oIld 3 <| jp 8
theorem s_X8_umbrellas_6 (d : Nat) : zPb l G gh (d + 8) n_X8_umbrellas p_X8_umbrellas 33 b_X8_umbrellas_6 := fun K jp hj =>
    z_iload_n (n := 3) (i := 3) (zd (i := .iload_n 3) (n := 1) (by decide +kernel)) rfl <|
    z_goto (off := 9) (tgt := 43) (zd (i := .goto (9)) (n := 3) (by decide +kernel)) (by decide +kernel) (zj (hj 8) (by decide +kernel))
noncomputable def b_X8_umbrellas_7 : zBl := fun jp K => oAld 0 <| oGetR 8 11 <| oIld 2 <| oXald 10 <| jp 8
theorem s_X8_umbrellas_7 (d : Nat) : zPb l G gh (d + 8) n_X8_umbrellas p_X8_umbrellas 37 b_X8_umbrellas_7 := fun K jp hj =>
    z_aload_n (n := 0) (i := 0) (zd (i := .aload_n 0) (n := 1) (by decide +kernel)) rfl <|
    z_getR (ci := 8) (j := 11) (idx := 65) (zd (i := .getfield 65) (n := 3) (by decide +kernel)) (by decide +kernel) (by decide +kernel) rfl g463 <|
    z_iload_n (n := 2) (i := 2) (zd (i := .iload_n 2) (n := 1) (by decide +kernel)) rfl <|
    z_iald (zd (i := .iaload) (n := 1) (by decide +kernel)) <|
    (zj (hj 8) (by decide +kernel))
noncomputable def b_X8_umbrellas_8 : zBl := fun jp K => oIret K
theorem s_X8_umbrellas_8 (d : Nat) : zPb l G gh (d + 8) n_X8_umbrellas p_X8_umbrellas 43 b_X8_umbrellas_8 := fun K jp hj =>
    z_iret (zd (i := .ireturn) (n := 1) (by decide +kernel)) rfl
noncomputable def t_X8_umbrellas : List zBl := [b_X8_umbrellas_0, b_X8_umbrellas_1, b_X8_umbrellas_2, b_X8_umbrellas_3, b_X8_umbrellas_4, b_X8_umbrellas_5, b_X8_umbrellas_6, b_X8_umbrellas_7, b_X8_umbrellas_8]
theorem tt_X8_umbrellas (d : Nat) : zT (zPb l G gh (d + 8) n_X8_umbrellas p_X8_umbrellas) t_X8_umbrellas p_X8_umbrellas := ⟨s_X8_umbrellas_0 d, s_X8_umbrellas_1 d, s_X8_umbrellas_2 d, s_X8_umbrellas_3 d, s_X8_umbrellas_4 d, s_X8_umbrellas_5 d, s_X8_umbrellas_6 d, s_X8_umbrellas_7 d, s_X8_umbrellas_8 d, trivial⟩
def q_X8_umbrellas_0 : List (Nat × Nat) := [(0, zk0), (21, zk10), (255, zk7), (257, zk121), (258, zk125), (259, zk20), (261, zk12), (262, zk12), (265, zk2), (266, zk18), (267, zk18), (268, zk19), (269, zk3), (270, zk7)]
noncomputable def al_X8_umbrellas_0 : zAq := [(some (.inl 9223372039002259519), [(0, zk0), (21, zk10), (255, zk9), (257, zk122), (258, zk126), (259, zk20), (261, zk12), (262, zk12), (265, zk2), (266, zk18), (267, zk18), (268, zk19), (269, zk4), (270, zk9)])]
noncomputable def fm_X8_umbrellas_0 : List zFm := [(0, [], (fun vs => [.inr (.ref 0), .inl 2147483649, .inl 2147483647]), (fun vs => zP q_X8_umbrellas_0), (fun vs => Nat.sub (Nat.add 0 0) 0))]
def bf_X8_umbrellas_0 : List Nat := []
theorem r_X8_umbrellas_0_0 : zbox [] (fun vs => zFrun (zpost (zAlq al_X8_umbrellas_0)) 1000 t_X8_umbrellas fm_X8_umbrellas_0 bf_X8_umbrellas_0 (0, vs)) = true := by decide +kernel
set_option maxRecDepth 100000 in
theorem x_X8_umbrellas_0 (d : Nat) : zS l G gh (d + 8) (zpost (zAlq al_X8_umbrellas_0)) n_X8_umbrellas (zn 0 p_X8_umbrellas 0) (zwc (0, [.inr (.ref 0), .inl 2147483649, .inl 2147483647], zP q_X8_umbrellas_0) 0) := zentry (tt_X8_umbrellas d) fm_X8_umbrellas_0 bf_X8_umbrellas_0 1000 (by decide +kernel) rfl ⟨Nat.zero_lt_succ _, trivial⟩ (fun f hf => match f, hf with
  | 0, _ => fun vs hv => (zbox_t r_X8_umbrellas_0_0) vs hv
  | f + 1, h => absurd (show f + 1 < 1 from h) (Nat.not_lt.mpr (Nat.le_add_left 1 f)))
noncomputable def gs_X8_umbrellas_0 : zMt := zgq false [] 4 [.inr (.ref 0), .inl 2147483649, .inl 2147483647] q_X8_umbrellas_0 al_X8_umbrellas_0
set_option maxRecDepth 100000 in
theorem cs_X8_umbrellas_0 (d : Nat) : zC l G gh (d + 8) n_X8_umbrellas gs_X8_umbrellas_0 := zgq_ok0 (pcs := p_X8_umbrellas) (by decide) rfl rfl (fun a ha => by simp only [al_X8_umbrellas_0, List.mem_cons, List.not_mem_nil, or_false] at ha; rcases ha with rfl <;> decide +kernel) (fun gh => x_X8_umbrellas_0 d) (by decide +kernel)
def q_X8_umbrellas_1 : List (Nat × Nat) := [(0, zk0), (21, zk10), (255, zk7), (257, zk121), (258, zk125), (259, zk20), (261, zk12), (262, zk12), (265, zk2), (266, zk18), (267, zk18), (268, zk19), (269, zk3), (270, zk7)]
noncomputable def al_X8_umbrellas_1 : zAq := [(some (.inl 8589934591), [(0, zk0), (21, zk10), (255, zk9), (257, zk122), (258, zk126), (259, zk20), (261, zk12), (262, zk12), (265, zk2), (266, zk18), (267, zk18), (268, zk19), (269, zk4), (270, zk9)])]
noncomputable def fm_X8_umbrellas_1 : List zFm := [(0, [], (fun vs => [.inr (.ref 0), .inl 2147483649, .inl 2147483648]), (fun vs => zP q_X8_umbrellas_1), (fun vs => Nat.sub (Nat.add 0 0) 0))]
def bf_X8_umbrellas_1 : List Nat := []
theorem r_X8_umbrellas_1_0 : zbox [] (fun vs => zFrun (zpost (zAlq al_X8_umbrellas_1)) 1000 t_X8_umbrellas fm_X8_umbrellas_1 bf_X8_umbrellas_1 (0, vs)) = true := by decide +kernel
set_option maxRecDepth 100000 in
theorem x_X8_umbrellas_1 (d : Nat) : zS l G gh (d + 8) (zpost (zAlq al_X8_umbrellas_1)) n_X8_umbrellas (zn 0 p_X8_umbrellas 0) (zwc (0, [.inr (.ref 0), .inl 2147483649, .inl 2147483648], zP q_X8_umbrellas_1) 0) := zentry (tt_X8_umbrellas d) fm_X8_umbrellas_1 bf_X8_umbrellas_1 1000 (by decide +kernel) rfl ⟨Nat.zero_lt_succ _, trivial⟩ (fun f hf => match f, hf with
  | 0, _ => fun vs hv => (zbox_t r_X8_umbrellas_1_0) vs hv
  | f + 1, h => absurd (show f + 1 < 1 from h) (Nat.not_lt.mpr (Nat.le_add_left 1 f)))
noncomputable def gs_X8_umbrellas_1 : zMt := zgq false [] 4 [.inr (.ref 0), .inl 2147483649, .inl 2147483648] q_X8_umbrellas_1 al_X8_umbrellas_1
set_option maxRecDepth 100000 in
theorem cs_X8_umbrellas_1 (d : Nat) : zC l G gh (d + 8) n_X8_umbrellas gs_X8_umbrellas_1 := zgq_ok0 (pcs := p_X8_umbrellas) (by decide) rfl rfl (fun a ha => by simp only [al_X8_umbrellas_1, List.mem_cons, List.not_mem_nil, or_false] at ha; rcases ha with rfl <;> decide +kernel) (fun gh => x_X8_umbrellas_1 d) (by decide +kernel)
def q_X8_umbrellas_2 : List (Nat × Nat) := []
noncomputable def al_X8_umbrellas_2 : zAq := [(some (.inl 2147483647), [])]
noncomputable def fm_X8_umbrellas_2 : List zFm := [(0, [], (fun vs => [.inr (.ref 0), .inl 2147483649, .inl 2147483649]), (fun vs => zP q_X8_umbrellas_2), (fun vs => Nat.sub (Nat.add 0 0) 0))]
def bf_X8_umbrellas_2 : List Nat := []
theorem r_X8_umbrellas_2_0 : zbox [] (fun vs => zFrun (zpost (zAlq al_X8_umbrellas_2)) 1000 t_X8_umbrellas fm_X8_umbrellas_2 bf_X8_umbrellas_2 (0, vs)) = true := by decide +kernel
set_option maxRecDepth 100000 in
theorem x_X8_umbrellas_2 (d : Nat) : zS l G gh (d + 8) (zpost (zAlq al_X8_umbrellas_2)) n_X8_umbrellas (zn 0 p_X8_umbrellas 0) (zwc (0, [.inr (.ref 0), .inl 2147483649, .inl 2147483649], zP q_X8_umbrellas_2) 0) := zentry (tt_X8_umbrellas d) fm_X8_umbrellas_2 bf_X8_umbrellas_2 1000 (by decide +kernel) rfl ⟨Nat.zero_lt_succ _, trivial⟩ (fun f hf => match f, hf with
  | 0, _ => fun vs hv => (zbox_t r_X8_umbrellas_2_0) vs hv
  | f + 1, h => absurd (show f + 1 < 1 from h) (Nat.not_lt.mpr (Nat.le_add_left 1 f)))
noncomputable def gs_X8_umbrellas_2 : zMt := zgq false [] 4 [.inr (.ref 0), .inl 2147483649, .inl 2147483649] q_X8_umbrellas_2 al_X8_umbrellas_2
set_option maxRecDepth 100000 in
theorem cs_X8_umbrellas_2 (d : Nat) : zC l G gh (d + 8) n_X8_umbrellas gs_X8_umbrellas_2 := zgq_ok0 (pcs := p_X8_umbrellas) (by decide) rfl rfl (fun a ha => by simp only [al_X8_umbrellas_2, List.mem_cons, List.not_mem_nil, or_false] at ha; rcases ha with rfl <;> decide +kernel) (fun gh => x_X8_umbrellas_2 d) (by decide +kernel)
def q_X8_umbrellas_3 : List (Nat × Nat) := []
noncomputable def al_X8_umbrellas_3 : zAq := [(some (.inl 2147483647), [])]
noncomputable def fm_X8_umbrellas_3 : List zFm := [(0, [], (fun vs => [.inr (.ref 0), .inl 2147483649, .inl 2147483650]), (fun vs => zP q_X8_umbrellas_3), (fun vs => Nat.sub (Nat.add 0 0) 0))]
def bf_X8_umbrellas_3 : List Nat := []
theorem r_X8_umbrellas_3_0 : zbox [] (fun vs => zFrun (zpost (zAlq al_X8_umbrellas_3)) 1000 t_X8_umbrellas fm_X8_umbrellas_3 bf_X8_umbrellas_3 (0, vs)) = true := by decide +kernel
set_option maxRecDepth 100000 in
theorem x_X8_umbrellas_3 (d : Nat) : zS l G gh (d + 8) (zpost (zAlq al_X8_umbrellas_3)) n_X8_umbrellas (zn 0 p_X8_umbrellas 0) (zwc (0, [.inr (.ref 0), .inl 2147483649, .inl 2147483650], zP q_X8_umbrellas_3) 0) := zentry (tt_X8_umbrellas d) fm_X8_umbrellas_3 bf_X8_umbrellas_3 1000 (by decide +kernel) rfl ⟨Nat.zero_lt_succ _, trivial⟩ (fun f hf => match f, hf with
  | 0, _ => fun vs hv => (zbox_t r_X8_umbrellas_3_0) vs hv
  | f + 1, h => absurd (show f + 1 < 1 from h) (Nat.not_lt.mpr (Nat.le_add_left 1 f)))
noncomputable def gs_X8_umbrellas_3 : zMt := zgq false [] 4 [.inr (.ref 0), .inl 2147483649, .inl 2147483650] q_X8_umbrellas_3 al_X8_umbrellas_3
set_option maxRecDepth 100000 in
theorem cs_X8_umbrellas_3 (d : Nat) : zC l G gh (d + 8) n_X8_umbrellas gs_X8_umbrellas_3 := zgq_ok0 (pcs := p_X8_umbrellas) (by decide) rfl rfl (fun a ha => by simp only [al_X8_umbrellas_3, List.mem_cons, List.not_mem_nil, or_false] at ha; rcases ha with rfl <;> decide +kernel) (fun gh => x_X8_umbrellas_3 d) (by decide +kernel)
def q_X8_umbrellas_4 : List (Nat × Nat) := []
noncomputable def al_X8_umbrellas_4 : zAq := [(some (.inl 2147483647), [])]
noncomputable def fm_X8_umbrellas_4 : List zFm := [(0, [], (fun vs => [.inr (.ref 0), .inl 2147483649, .inl 6442450942]), (fun vs => zP q_X8_umbrellas_4), (fun vs => Nat.sub (Nat.add 0 0) 0))]
def bf_X8_umbrellas_4 : List Nat := []
theorem r_X8_umbrellas_4_0 : zbox [] (fun vs => zFrun (zpost (zAlq al_X8_umbrellas_4)) 1000 t_X8_umbrellas fm_X8_umbrellas_4 bf_X8_umbrellas_4 (0, vs)) = true := by decide +kernel
set_option maxRecDepth 100000 in
theorem x_X8_umbrellas_4 (d : Nat) : zS l G gh (d + 8) (zpost (zAlq al_X8_umbrellas_4)) n_X8_umbrellas (zn 0 p_X8_umbrellas 0) (zwc (0, [.inr (.ref 0), .inl 2147483649, .inl 6442450942], zP q_X8_umbrellas_4) 0) := zentry (tt_X8_umbrellas d) fm_X8_umbrellas_4 bf_X8_umbrellas_4 1000 (by decide +kernel) rfl ⟨Nat.zero_lt_succ _, trivial⟩ (fun f hf => match f, hf with
  | 0, _ => fun vs hv => (zbox_t r_X8_umbrellas_4_0) vs hv
  | f + 1, h => absurd (show f + 1 < 1 from h) (Nat.not_lt.mpr (Nat.le_add_left 1 f)))
noncomputable def gs_X8_umbrellas_4 : zMt := zgq false [] 4 [.inr (.ref 0), .inl 2147483649, .inl 6442450942] q_X8_umbrellas_4 al_X8_umbrellas_4
set_option maxRecDepth 100000 in
theorem cs_X8_umbrellas_4 (d : Nat) : zC l G gh (d + 8) n_X8_umbrellas gs_X8_umbrellas_4 := zgq_ok0 (pcs := p_X8_umbrellas) (by decide) rfl rfl (fun a ha => by simp only [al_X8_umbrellas_4, List.mem_cons, List.not_mem_nil, or_false] at ha; rcases ha with rfl <;> decide +kernel) (fun gh => x_X8_umbrellas_4 d) (by decide +kernel)
def q_X8_umbrellas_5 : List (Nat × Nat) := []
noncomputable def al_X8_umbrellas_5 : zAq := [(some (.inl 2147483647), [])]
noncomputable def fm_X8_umbrellas_5 : List zFm := [(0, [], (fun vs => [.inr (.ref 0), .inl 2147483649, .inl 9223372058329612287]), (fun vs => zP q_X8_umbrellas_5), (fun vs => Nat.sub (Nat.add 0 0) 0))]
def bf_X8_umbrellas_5 : List Nat := []
theorem r_X8_umbrellas_5_0 : zbox [] (fun vs => zFrun (zpost (zAlq al_X8_umbrellas_5)) 1000 t_X8_umbrellas fm_X8_umbrellas_5 bf_X8_umbrellas_5 (0, vs)) = true := by decide +kernel
set_option maxRecDepth 100000 in
theorem x_X8_umbrellas_5 (d : Nat) : zS l G gh (d + 8) (zpost (zAlq al_X8_umbrellas_5)) n_X8_umbrellas (zn 0 p_X8_umbrellas 0) (zwc (0, [.inr (.ref 0), .inl 2147483649, .inl 9223372058329612287], zP q_X8_umbrellas_5) 0) := zentry (tt_X8_umbrellas d) fm_X8_umbrellas_5 bf_X8_umbrellas_5 1000 (by decide +kernel) rfl ⟨Nat.zero_lt_succ _, trivial⟩ (fun f hf => match f, hf with
  | 0, _ => fun vs hv => (zbox_t r_X8_umbrellas_5_0) vs hv
  | f + 1, h => absurd (show f + 1 < 1 from h) (Nat.not_lt.mpr (Nat.le_add_left 1 f)))
noncomputable def gs_X8_umbrellas_5 : zMt := zgq false [] 4 [.inr (.ref 0), .inl 2147483649, .inl 9223372058329612287] q_X8_umbrellas_5 al_X8_umbrellas_5
set_option maxRecDepth 100000 in
theorem cs_X8_umbrellas_5 (d : Nat) : zC l G gh (d + 8) n_X8_umbrellas gs_X8_umbrellas_5 := zgq_ok0 (pcs := p_X8_umbrellas) (by decide) rfl rfl (fun a ha => by simp only [al_X8_umbrellas_5, List.mem_cons, List.not_mem_nil, or_false] at ha; rcases ha with rfl <;> decide +kernel) (fun gh => x_X8_umbrellas_5 d) (by decide +kernel)
def q_X8_umbrellas_6 : List (Nat × Nat) := [(0, zk0), (21, zk10), (255, zk7), (257, zk121), (258, zk125), (259, zk20), (261, zk12), (262, zk12), (265, zk2), (266, zk18), (267, zk18), (268, zk19), (269, zk3), (270, zk7)]
noncomputable def al_X8_umbrellas_6 : zAq := [(some (.inl 9223372039002259519), [(0, zk0), (21, zk10), (255, zk9), (257, zk122), (258, zk126), (259, zk20), (261, zk12), (262, zk12), (265, zk2), (266, zk18), (267, zk18), (268, zk19), (269, zk4), (270, zk9)])]
noncomputable def fm_X8_umbrellas_6 : List zFm := [(0, [], (fun vs => [.inr (.ref 0), .inl 2147483650, .inl 2147483647]), (fun vs => zP q_X8_umbrellas_6), (fun vs => Nat.sub (Nat.add 0 0) 0))]
def bf_X8_umbrellas_6 : List Nat := []
theorem r_X8_umbrellas_6_0 : zbox [] (fun vs => zFrun (zpost (zAlq al_X8_umbrellas_6)) 1000 t_X8_umbrellas fm_X8_umbrellas_6 bf_X8_umbrellas_6 (0, vs)) = true := by decide +kernel
set_option maxRecDepth 100000 in
theorem x_X8_umbrellas_6 (d : Nat) : zS l G gh (d + 8) (zpost (zAlq al_X8_umbrellas_6)) n_X8_umbrellas (zn 0 p_X8_umbrellas 0) (zwc (0, [.inr (.ref 0), .inl 2147483650, .inl 2147483647], zP q_X8_umbrellas_6) 0) := zentry (tt_X8_umbrellas d) fm_X8_umbrellas_6 bf_X8_umbrellas_6 1000 (by decide +kernel) rfl ⟨Nat.zero_lt_succ _, trivial⟩ (fun f hf => match f, hf with
  | 0, _ => fun vs hv => (zbox_t r_X8_umbrellas_6_0) vs hv
  | f + 1, h => absurd (show f + 1 < 1 from h) (Nat.not_lt.mpr (Nat.le_add_left 1 f)))
noncomputable def gs_X8_umbrellas_6 : zMt := zgq false [] 4 [.inr (.ref 0), .inl 2147483650, .inl 2147483647] q_X8_umbrellas_6 al_X8_umbrellas_6
set_option maxRecDepth 100000 in
theorem cs_X8_umbrellas_6 (d : Nat) : zC l G gh (d + 8) n_X8_umbrellas gs_X8_umbrellas_6 := zgq_ok0 (pcs := p_X8_umbrellas) (by decide) rfl rfl (fun a ha => by simp only [al_X8_umbrellas_6, List.mem_cons, List.not_mem_nil, or_false] at ha; rcases ha with rfl <;> decide +kernel) (fun gh => x_X8_umbrellas_6 d) (by decide +kernel)
def q_X8_umbrellas_7 : List (Nat × Nat) := [(0, zk0), (21, zk10), (255, zk7), (257, zk121), (258, zk125), (259, zk20), (261, zk12), (262, zk12), (265, zk2), (266, zk18), (267, zk18), (268, zk19), (269, zk3), (270, zk7)]
noncomputable def al_X8_umbrellas_7 : zAq := [(some (.inl 8589934591), [(0, zk0), (21, zk10), (255, zk9), (257, zk122), (258, zk126), (259, zk20), (261, zk12), (262, zk12), (265, zk2), (266, zk18), (267, zk18), (268, zk19), (269, zk4), (270, zk9)])]
noncomputable def fm_X8_umbrellas_7 : List zFm := [(0, [], (fun vs => [.inr (.ref 0), .inl 2147483650, .inl 2147483648]), (fun vs => zP q_X8_umbrellas_7), (fun vs => Nat.sub (Nat.add 0 0) 0))]
def bf_X8_umbrellas_7 : List Nat := []
theorem r_X8_umbrellas_7_0 : zbox [] (fun vs => zFrun (zpost (zAlq al_X8_umbrellas_7)) 1000 t_X8_umbrellas fm_X8_umbrellas_7 bf_X8_umbrellas_7 (0, vs)) = true := by decide +kernel
set_option maxRecDepth 100000 in
theorem x_X8_umbrellas_7 (d : Nat) : zS l G gh (d + 8) (zpost (zAlq al_X8_umbrellas_7)) n_X8_umbrellas (zn 0 p_X8_umbrellas 0) (zwc (0, [.inr (.ref 0), .inl 2147483650, .inl 2147483648], zP q_X8_umbrellas_7) 0) := zentry (tt_X8_umbrellas d) fm_X8_umbrellas_7 bf_X8_umbrellas_7 1000 (by decide +kernel) rfl ⟨Nat.zero_lt_succ _, trivial⟩ (fun f hf => match f, hf with
  | 0, _ => fun vs hv => (zbox_t r_X8_umbrellas_7_0) vs hv
  | f + 1, h => absurd (show f + 1 < 1 from h) (Nat.not_lt.mpr (Nat.le_add_left 1 f)))
noncomputable def gs_X8_umbrellas_7 : zMt := zgq false [] 4 [.inr (.ref 0), .inl 2147483650, .inl 2147483648] q_X8_umbrellas_7 al_X8_umbrellas_7
set_option maxRecDepth 100000 in
theorem cs_X8_umbrellas_7 (d : Nat) : zC l G gh (d + 8) n_X8_umbrellas gs_X8_umbrellas_7 := zgq_ok0 (pcs := p_X8_umbrellas) (by decide) rfl rfl (fun a ha => by simp only [al_X8_umbrellas_7, List.mem_cons, List.not_mem_nil, or_false] at ha; rcases ha with rfl <;> decide +kernel) (fun gh => x_X8_umbrellas_7 d) (by decide +kernel)
def q_X8_umbrellas_8 : List (Nat × Nat) := [(0, zk0), (21, zk10), (255, zk7), (257, zk121), (258, zk125), (259, zk20), (261, zk12), (262, zk12), (265, zk2), (266, zk18), (267, zk18), (268, zk19), (269, zk3), (270, zk7)]
noncomputable def al_X8_umbrellas_8 : zAq := [(some (.inl 8589934591), [(0, zk0), (21, zk10), (255, zk9), (257, zk122), (258, zk126), (259, zk20), (261, zk12), (262, zk12), (265, zk2), (266, zk18), (267, zk18), (268, zk19), (269, zk4), (270, zk9)])]
noncomputable def fm_X8_umbrellas_8 : List zFm := [(0, [], (fun vs => [.inr (.ref 0), .inl 2147483650, .inl 2147483649]), (fun vs => zP q_X8_umbrellas_8), (fun vs => Nat.sub (Nat.add 0 0) 0))]
def bf_X8_umbrellas_8 : List Nat := []
theorem r_X8_umbrellas_8_0 : zbox [] (fun vs => zFrun (zpost (zAlq al_X8_umbrellas_8)) 1000 t_X8_umbrellas fm_X8_umbrellas_8 bf_X8_umbrellas_8 (0, vs)) = true := by decide +kernel
set_option maxRecDepth 100000 in
theorem x_X8_umbrellas_8 (d : Nat) : zS l G gh (d + 8) (zpost (zAlq al_X8_umbrellas_8)) n_X8_umbrellas (zn 0 p_X8_umbrellas 0) (zwc (0, [.inr (.ref 0), .inl 2147483650, .inl 2147483649], zP q_X8_umbrellas_8) 0) := zentry (tt_X8_umbrellas d) fm_X8_umbrellas_8 bf_X8_umbrellas_8 1000 (by decide +kernel) rfl ⟨Nat.zero_lt_succ _, trivial⟩ (fun f hf => match f, hf with
  | 0, _ => fun vs hv => (zbox_t r_X8_umbrellas_8_0) vs hv
  | f + 1, h => absurd (show f + 1 < 1 from h) (Nat.not_lt.mpr (Nat.le_add_left 1 f)))
noncomputable def gs_X8_umbrellas_8 : zMt := zgq false [] 4 [.inr (.ref 0), .inl 2147483650, .inl 2147483649] q_X8_umbrellas_8 al_X8_umbrellas_8
set_option maxRecDepth 100000 in
theorem cs_X8_umbrellas_8 (d : Nat) : zC l G gh (d + 8) n_X8_umbrellas gs_X8_umbrellas_8 := zgq_ok0 (pcs := p_X8_umbrellas) (by decide) rfl rfl (fun a ha => by simp only [al_X8_umbrellas_8, List.mem_cons, List.not_mem_nil, or_false] at ha; rcases ha with rfl <;> decide +kernel) (fun gh => x_X8_umbrellas_8 d) (by decide +kernel)
def q_X8_umbrellas_9 : List (Nat × Nat) := []
noncomputable def al_X8_umbrellas_9 : zAq := [(some (.inl 2147483647), [])]
noncomputable def fm_X8_umbrellas_9 : List zFm := [(0, [], (fun vs => [.inr (.ref 0), .inl 2147483650, .inl 2147483650]), (fun vs => zP q_X8_umbrellas_9), (fun vs => Nat.sub (Nat.add 0 0) 0))]
def bf_X8_umbrellas_9 : List Nat := []
theorem r_X8_umbrellas_9_0 : zbox [] (fun vs => zFrun (zpost (zAlq al_X8_umbrellas_9)) 1000 t_X8_umbrellas fm_X8_umbrellas_9 bf_X8_umbrellas_9 (0, vs)) = true := by decide +kernel
set_option maxRecDepth 100000 in
theorem x_X8_umbrellas_9 (d : Nat) : zS l G gh (d + 8) (zpost (zAlq al_X8_umbrellas_9)) n_X8_umbrellas (zn 0 p_X8_umbrellas 0) (zwc (0, [.inr (.ref 0), .inl 2147483650, .inl 2147483650], zP q_X8_umbrellas_9) 0) := zentry (tt_X8_umbrellas d) fm_X8_umbrellas_9 bf_X8_umbrellas_9 1000 (by decide +kernel) rfl ⟨Nat.zero_lt_succ _, trivial⟩ (fun f hf => match f, hf with
  | 0, _ => fun vs hv => (zbox_t r_X8_umbrellas_9_0) vs hv
  | f + 1, h => absurd (show f + 1 < 1 from h) (Nat.not_lt.mpr (Nat.le_add_left 1 f)))
noncomputable def gs_X8_umbrellas_9 : zMt := zgq false [] 4 [.inr (.ref 0), .inl 2147483650, .inl 2147483650] q_X8_umbrellas_9 al_X8_umbrellas_9
set_option maxRecDepth 100000 in
theorem cs_X8_umbrellas_9 (d : Nat) : zC l G gh (d + 8) n_X8_umbrellas gs_X8_umbrellas_9 := zgq_ok0 (pcs := p_X8_umbrellas) (by decide) rfl rfl (fun a ha => by simp only [al_X8_umbrellas_9, List.mem_cons, List.not_mem_nil, or_false] at ha; rcases ha with rfl <;> decide +kernel) (fun gh => x_X8_umbrellas_9 d) (by decide +kernel)
def q_X8_umbrellas_10 : List (Nat × Nat) := []
noncomputable def al_X8_umbrellas_10 : zAq := [(some (.inl 2147483647), [])]
noncomputable def fm_X8_umbrellas_10 : List zFm := [(0, [], (fun vs => [.inr (.ref 0), .inl 2147483650, .inl 6442450942]), (fun vs => zP q_X8_umbrellas_10), (fun vs => Nat.sub (Nat.add 0 0) 0))]
def bf_X8_umbrellas_10 : List Nat := []
theorem r_X8_umbrellas_10_0 : zbox [] (fun vs => zFrun (zpost (zAlq al_X8_umbrellas_10)) 1000 t_X8_umbrellas fm_X8_umbrellas_10 bf_X8_umbrellas_10 (0, vs)) = true := by decide +kernel
set_option maxRecDepth 100000 in
theorem x_X8_umbrellas_10 (d : Nat) : zS l G gh (d + 8) (zpost (zAlq al_X8_umbrellas_10)) n_X8_umbrellas (zn 0 p_X8_umbrellas 0) (zwc (0, [.inr (.ref 0), .inl 2147483650, .inl 6442450942], zP q_X8_umbrellas_10) 0) := zentry (tt_X8_umbrellas d) fm_X8_umbrellas_10 bf_X8_umbrellas_10 1000 (by decide +kernel) rfl ⟨Nat.zero_lt_succ _, trivial⟩ (fun f hf => match f, hf with
  | 0, _ => fun vs hv => (zbox_t r_X8_umbrellas_10_0) vs hv
  | f + 1, h => absurd (show f + 1 < 1 from h) (Nat.not_lt.mpr (Nat.le_add_left 1 f)))
noncomputable def gs_X8_umbrellas_10 : zMt := zgq false [] 4 [.inr (.ref 0), .inl 2147483650, .inl 6442450942] q_X8_umbrellas_10 al_X8_umbrellas_10
set_option maxRecDepth 100000 in
theorem cs_X8_umbrellas_10 (d : Nat) : zC l G gh (d + 8) n_X8_umbrellas gs_X8_umbrellas_10 := zgq_ok0 (pcs := p_X8_umbrellas) (by decide) rfl rfl (fun a ha => by simp only [al_X8_umbrellas_10, List.mem_cons, List.not_mem_nil, or_false] at ha; rcases ha with rfl <;> decide +kernel) (fun gh => x_X8_umbrellas_10 d) (by decide +kernel)
def q_X8_umbrellas_11 : List (Nat × Nat) := []
noncomputable def al_X8_umbrellas_11 : zAq := [(some (.inl 2147483647), [])]
noncomputable def fm_X8_umbrellas_11 : List zFm := [(0, [], (fun vs => [.inr (.ref 0), .inl 2147483650, .inl 9223372058329612287]), (fun vs => zP q_X8_umbrellas_11), (fun vs => Nat.sub (Nat.add 0 0) 0))]
def bf_X8_umbrellas_11 : List Nat := []
theorem r_X8_umbrellas_11_0 : zbox [] (fun vs => zFrun (zpost (zAlq al_X8_umbrellas_11)) 1000 t_X8_umbrellas fm_X8_umbrellas_11 bf_X8_umbrellas_11 (0, vs)) = true := by decide +kernel
set_option maxRecDepth 100000 in
theorem x_X8_umbrellas_11 (d : Nat) : zS l G gh (d + 8) (zpost (zAlq al_X8_umbrellas_11)) n_X8_umbrellas (zn 0 p_X8_umbrellas 0) (zwc (0, [.inr (.ref 0), .inl 2147483650, .inl 9223372058329612287], zP q_X8_umbrellas_11) 0) := zentry (tt_X8_umbrellas d) fm_X8_umbrellas_11 bf_X8_umbrellas_11 1000 (by decide +kernel) rfl ⟨Nat.zero_lt_succ _, trivial⟩ (fun f hf => match f, hf with
  | 0, _ => fun vs hv => (zbox_t r_X8_umbrellas_11_0) vs hv
  | f + 1, h => absurd (show f + 1 < 1 from h) (Nat.not_lt.mpr (Nat.le_add_left 1 f)))
noncomputable def gs_X8_umbrellas_11 : zMt := zgq false [] 4 [.inr (.ref 0), .inl 2147483650, .inl 9223372058329612287] q_X8_umbrellas_11 al_X8_umbrellas_11
set_option maxRecDepth 100000 in
theorem cs_X8_umbrellas_11 (d : Nat) : zC l G gh (d + 8) n_X8_umbrellas gs_X8_umbrellas_11 := zgq_ok0 (pcs := p_X8_umbrellas) (by decide) rfl rfl (fun a ha => by simp only [al_X8_umbrellas_11, List.mem_cons, List.not_mem_nil, or_false] at ha; rcases ha with rfl <;> decide +kernel) (fun gh => x_X8_umbrellas_11 d) (by decide +kernel)
def q_X8_umbrellas_12 : List (Nat × Nat) := [(0, zk0), (21, zk10), (255, zk7), (257, zk121), (258, zk125), (259, zk20), (261, zk12), (262, zk12), (265, zk2), (266, zk18), (267, zk18), (268, zk19), (269, zk3), (270, zk7)]
noncomputable def al_X8_umbrellas_12 : zAq := [(some (.inl 9223372039002259519), [(0, zk0), (21, zk10), (255, zk9), (257, zk122), (258, zk126), (259, zk20), (261, zk12), (262, zk12), (265, zk2), (266, zk18), (267, zk18), (268, zk19), (269, zk4), (270, zk9)])]
noncomputable def fm_X8_umbrellas_12 : List zFm := [(0, [], (fun vs => [.inr (.ref 0), .inl 2147483651, .inl 2147483647]), (fun vs => zP q_X8_umbrellas_12), (fun vs => Nat.sub (Nat.add 0 0) 0))]
def bf_X8_umbrellas_12 : List Nat := []
theorem r_X8_umbrellas_12_0 : zbox [] (fun vs => zFrun (zpost (zAlq al_X8_umbrellas_12)) 1000 t_X8_umbrellas fm_X8_umbrellas_12 bf_X8_umbrellas_12 (0, vs)) = true := by decide +kernel
set_option maxRecDepth 100000 in
theorem x_X8_umbrellas_12 (d : Nat) : zS l G gh (d + 8) (zpost (zAlq al_X8_umbrellas_12)) n_X8_umbrellas (zn 0 p_X8_umbrellas 0) (zwc (0, [.inr (.ref 0), .inl 2147483651, .inl 2147483647], zP q_X8_umbrellas_12) 0) := zentry (tt_X8_umbrellas d) fm_X8_umbrellas_12 bf_X8_umbrellas_12 1000 (by decide +kernel) rfl ⟨Nat.zero_lt_succ _, trivial⟩ (fun f hf => match f, hf with
  | 0, _ => fun vs hv => (zbox_t r_X8_umbrellas_12_0) vs hv
  | f + 1, h => absurd (show f + 1 < 1 from h) (Nat.not_lt.mpr (Nat.le_add_left 1 f)))
noncomputable def gs_X8_umbrellas_12 : zMt := zgq false [] 4 [.inr (.ref 0), .inl 2147483651, .inl 2147483647] q_X8_umbrellas_12 al_X8_umbrellas_12
set_option maxRecDepth 100000 in
theorem cs_X8_umbrellas_12 (d : Nat) : zC l G gh (d + 8) n_X8_umbrellas gs_X8_umbrellas_12 := zgq_ok0 (pcs := p_X8_umbrellas) (by decide) rfl rfl (fun a ha => by simp only [al_X8_umbrellas_12, List.mem_cons, List.not_mem_nil, or_false] at ha; rcases ha with rfl <;> decide +kernel) (fun gh => x_X8_umbrellas_12 d) (by decide +kernel)
def q_X8_umbrellas_13 : List (Nat × Nat) := [(0, zk0), (21, zk10), (255, zk7), (257, zk121), (258, zk125), (259, zk20), (261, zk12), (262, zk12), (265, zk2), (266, zk18), (267, zk18), (268, zk19), (269, zk3), (270, zk7)]
noncomputable def al_X8_umbrellas_13 : zAq := [(some (.inl 8589934591), [(0, zk0), (21, zk10), (255, zk9), (257, zk122), (258, zk126), (259, zk20), (261, zk12), (262, zk12), (265, zk2), (266, zk18), (267, zk18), (268, zk19), (269, zk4), (270, zk9)])]
noncomputable def fm_X8_umbrellas_13 : List zFm := [(0, [], (fun vs => [.inr (.ref 0), .inl 2147483651, .inl 2147483648]), (fun vs => zP q_X8_umbrellas_13), (fun vs => Nat.sub (Nat.add 0 0) 0))]
def bf_X8_umbrellas_13 : List Nat := []
theorem r_X8_umbrellas_13_0 : zbox [] (fun vs => zFrun (zpost (zAlq al_X8_umbrellas_13)) 1000 t_X8_umbrellas fm_X8_umbrellas_13 bf_X8_umbrellas_13 (0, vs)) = true := by decide +kernel
set_option maxRecDepth 100000 in
theorem x_X8_umbrellas_13 (d : Nat) : zS l G gh (d + 8) (zpost (zAlq al_X8_umbrellas_13)) n_X8_umbrellas (zn 0 p_X8_umbrellas 0) (zwc (0, [.inr (.ref 0), .inl 2147483651, .inl 2147483648], zP q_X8_umbrellas_13) 0) := zentry (tt_X8_umbrellas d) fm_X8_umbrellas_13 bf_X8_umbrellas_13 1000 (by decide +kernel) rfl ⟨Nat.zero_lt_succ _, trivial⟩ (fun f hf => match f, hf with
  | 0, _ => fun vs hv => (zbox_t r_X8_umbrellas_13_0) vs hv
  | f + 1, h => absurd (show f + 1 < 1 from h) (Nat.not_lt.mpr (Nat.le_add_left 1 f)))
noncomputable def gs_X8_umbrellas_13 : zMt := zgq false [] 4 [.inr (.ref 0), .inl 2147483651, .inl 2147483648] q_X8_umbrellas_13 al_X8_umbrellas_13
set_option maxRecDepth 100000 in
theorem cs_X8_umbrellas_13 (d : Nat) : zC l G gh (d + 8) n_X8_umbrellas gs_X8_umbrellas_13 := zgq_ok0 (pcs := p_X8_umbrellas) (by decide) rfl rfl (fun a ha => by simp only [al_X8_umbrellas_13, List.mem_cons, List.not_mem_nil, or_false] at ha; rcases ha with rfl <;> decide +kernel) (fun gh => x_X8_umbrellas_13 d) (by decide +kernel)
def q_X8_umbrellas_14 : List (Nat × Nat) := [(0, zk0), (21, zk10), (255, zk7), (257, zk121), (258, zk125), (259, zk20), (261, zk12), (262, zk12), (265, zk2), (266, zk18), (267, zk18), (268, zk19), (269, zk3), (270, zk7)]
noncomputable def al_X8_umbrellas_14 : zAq := [(some (.inl 8589934591), [(0, zk0), (21, zk10), (255, zk9), (257, zk122), (258, zk126), (259, zk20), (261, zk12), (262, zk12), (265, zk2), (266, zk18), (267, zk18), (268, zk19), (269, zk4), (270, zk9)])]
noncomputable def fm_X8_umbrellas_14 : List zFm := [(0, [], (fun vs => [.inr (.ref 0), .inl 2147483651, .inl 2147483649]), (fun vs => zP q_X8_umbrellas_14), (fun vs => Nat.sub (Nat.add 0 0) 0))]
def bf_X8_umbrellas_14 : List Nat := []
theorem r_X8_umbrellas_14_0 : zbox [] (fun vs => zFrun (zpost (zAlq al_X8_umbrellas_14)) 1000 t_X8_umbrellas fm_X8_umbrellas_14 bf_X8_umbrellas_14 (0, vs)) = true := by decide +kernel
set_option maxRecDepth 100000 in
theorem x_X8_umbrellas_14 (d : Nat) : zS l G gh (d + 8) (zpost (zAlq al_X8_umbrellas_14)) n_X8_umbrellas (zn 0 p_X8_umbrellas 0) (zwc (0, [.inr (.ref 0), .inl 2147483651, .inl 2147483649], zP q_X8_umbrellas_14) 0) := zentry (tt_X8_umbrellas d) fm_X8_umbrellas_14 bf_X8_umbrellas_14 1000 (by decide +kernel) rfl ⟨Nat.zero_lt_succ _, trivial⟩ (fun f hf => match f, hf with
  | 0, _ => fun vs hv => (zbox_t r_X8_umbrellas_14_0) vs hv
  | f + 1, h => absurd (show f + 1 < 1 from h) (Nat.not_lt.mpr (Nat.le_add_left 1 f)))
noncomputable def gs_X8_umbrellas_14 : zMt := zgq false [] 4 [.inr (.ref 0), .inl 2147483651, .inl 2147483649] q_X8_umbrellas_14 al_X8_umbrellas_14
set_option maxRecDepth 100000 in
theorem cs_X8_umbrellas_14 (d : Nat) : zC l G gh (d + 8) n_X8_umbrellas gs_X8_umbrellas_14 := zgq_ok0 (pcs := p_X8_umbrellas) (by decide) rfl rfl (fun a ha => by simp only [al_X8_umbrellas_14, List.mem_cons, List.not_mem_nil, or_false] at ha; rcases ha with rfl <;> decide +kernel) (fun gh => x_X8_umbrellas_14 d) (by decide +kernel)
def q_X8_umbrellas_15 : List (Nat × Nat) := [(0, zk0), (21, zk10), (255, zk7), (257, zk121), (258, zk125), (259, zk20), (261, zk12), (262, zk12), (265, zk2), (266, zk18), (267, zk18), (268, zk19), (269, zk3), (270, zk7)]
noncomputable def al_X8_umbrellas_15 : zAq := [(some (.inl 8589934591), [(0, zk0), (21, zk10), (255, zk9), (257, zk122), (258, zk126), (259, zk20), (261, zk12), (262, zk12), (265, zk2), (266, zk18), (267, zk18), (268, zk19), (269, zk4), (270, zk9)])]
noncomputable def fm_X8_umbrellas_15 : List zFm := [(0, [], (fun vs => [.inr (.ref 0), .inl 2147483651, .inl 2147483650]), (fun vs => zP q_X8_umbrellas_15), (fun vs => Nat.sub (Nat.add 0 0) 0))]
def bf_X8_umbrellas_15 : List Nat := []
theorem r_X8_umbrellas_15_0 : zbox [] (fun vs => zFrun (zpost (zAlq al_X8_umbrellas_15)) 1000 t_X8_umbrellas fm_X8_umbrellas_15 bf_X8_umbrellas_15 (0, vs)) = true := by decide +kernel
set_option maxRecDepth 100000 in
theorem x_X8_umbrellas_15 (d : Nat) : zS l G gh (d + 8) (zpost (zAlq al_X8_umbrellas_15)) n_X8_umbrellas (zn 0 p_X8_umbrellas 0) (zwc (0, [.inr (.ref 0), .inl 2147483651, .inl 2147483650], zP q_X8_umbrellas_15) 0) := zentry (tt_X8_umbrellas d) fm_X8_umbrellas_15 bf_X8_umbrellas_15 1000 (by decide +kernel) rfl ⟨Nat.zero_lt_succ _, trivial⟩ (fun f hf => match f, hf with
  | 0, _ => fun vs hv => (zbox_t r_X8_umbrellas_15_0) vs hv
  | f + 1, h => absurd (show f + 1 < 1 from h) (Nat.not_lt.mpr (Nat.le_add_left 1 f)))
noncomputable def gs_X8_umbrellas_15 : zMt := zgq false [] 4 [.inr (.ref 0), .inl 2147483651, .inl 2147483650] q_X8_umbrellas_15 al_X8_umbrellas_15
set_option maxRecDepth 100000 in
theorem cs_X8_umbrellas_15 (d : Nat) : zC l G gh (d + 8) n_X8_umbrellas gs_X8_umbrellas_15 := zgq_ok0 (pcs := p_X8_umbrellas) (by decide) rfl rfl (fun a ha => by simp only [al_X8_umbrellas_15, List.mem_cons, List.not_mem_nil, or_false] at ha; rcases ha with rfl <;> decide +kernel) (fun gh => x_X8_umbrellas_15 d) (by decide +kernel)
def q_X8_umbrellas_16 : List (Nat × Nat) := []
noncomputable def al_X8_umbrellas_16 : zAq := [(some (.inl 2147483647), [])]
noncomputable def fm_X8_umbrellas_16 : List zFm := [(0, [], (fun vs => [.inr (.ref 0), .inl 2147483651, .inl 6442450942]), (fun vs => zP q_X8_umbrellas_16), (fun vs => Nat.sub (Nat.add 0 0) 0))]
def bf_X8_umbrellas_16 : List Nat := []
theorem r_X8_umbrellas_16_0 : zbox [] (fun vs => zFrun (zpost (zAlq al_X8_umbrellas_16)) 1000 t_X8_umbrellas fm_X8_umbrellas_16 bf_X8_umbrellas_16 (0, vs)) = true := by decide +kernel
set_option maxRecDepth 100000 in
theorem x_X8_umbrellas_16 (d : Nat) : zS l G gh (d + 8) (zpost (zAlq al_X8_umbrellas_16)) n_X8_umbrellas (zn 0 p_X8_umbrellas 0) (zwc (0, [.inr (.ref 0), .inl 2147483651, .inl 6442450942], zP q_X8_umbrellas_16) 0) := zentry (tt_X8_umbrellas d) fm_X8_umbrellas_16 bf_X8_umbrellas_16 1000 (by decide +kernel) rfl ⟨Nat.zero_lt_succ _, trivial⟩ (fun f hf => match f, hf with
  | 0, _ => fun vs hv => (zbox_t r_X8_umbrellas_16_0) vs hv
  | f + 1, h => absurd (show f + 1 < 1 from h) (Nat.not_lt.mpr (Nat.le_add_left 1 f)))
noncomputable def gs_X8_umbrellas_16 : zMt := zgq false [] 4 [.inr (.ref 0), .inl 2147483651, .inl 6442450942] q_X8_umbrellas_16 al_X8_umbrellas_16
set_option maxRecDepth 100000 in
theorem cs_X8_umbrellas_16 (d : Nat) : zC l G gh (d + 8) n_X8_umbrellas gs_X8_umbrellas_16 := zgq_ok0 (pcs := p_X8_umbrellas) (by decide) rfl rfl (fun a ha => by simp only [al_X8_umbrellas_16, List.mem_cons, List.not_mem_nil, or_false] at ha; rcases ha with rfl <;> decide +kernel) (fun gh => x_X8_umbrellas_16 d) (by decide +kernel)
def q_X8_umbrellas_17 : List (Nat × Nat) := []
noncomputable def al_X8_umbrellas_17 : zAq := [(some (.inl 2147483647), [])]
noncomputable def fm_X8_umbrellas_17 : List zFm := [(0, [], (fun vs => [.inr (.ref 0), .inl 2147483651, .inl 9223372058329612287]), (fun vs => zP q_X8_umbrellas_17), (fun vs => Nat.sub (Nat.add 0 0) 0))]
def bf_X8_umbrellas_17 : List Nat := []
theorem r_X8_umbrellas_17_0 : zbox [] (fun vs => zFrun (zpost (zAlq al_X8_umbrellas_17)) 1000 t_X8_umbrellas fm_X8_umbrellas_17 bf_X8_umbrellas_17 (0, vs)) = true := by decide +kernel
set_option maxRecDepth 100000 in
theorem x_X8_umbrellas_17 (d : Nat) : zS l G gh (d + 8) (zpost (zAlq al_X8_umbrellas_17)) n_X8_umbrellas (zn 0 p_X8_umbrellas 0) (zwc (0, [.inr (.ref 0), .inl 2147483651, .inl 9223372058329612287], zP q_X8_umbrellas_17) 0) := zentry (tt_X8_umbrellas d) fm_X8_umbrellas_17 bf_X8_umbrellas_17 1000 (by decide +kernel) rfl ⟨Nat.zero_lt_succ _, trivial⟩ (fun f hf => match f, hf with
  | 0, _ => fun vs hv => (zbox_t r_X8_umbrellas_17_0) vs hv
  | f + 1, h => absurd (show f + 1 < 1 from h) (Nat.not_lt.mpr (Nat.le_add_left 1 f)))
noncomputable def gs_X8_umbrellas_17 : zMt := zgq false [] 4 [.inr (.ref 0), .inl 2147483651, .inl 9223372058329612287] q_X8_umbrellas_17 al_X8_umbrellas_17
set_option maxRecDepth 100000 in
theorem cs_X8_umbrellas_17 (d : Nat) : zC l G gh (d + 8) n_X8_umbrellas gs_X8_umbrellas_17 := zgq_ok0 (pcs := p_X8_umbrellas) (by decide) rfl rfl (fun a ha => by simp only [al_X8_umbrellas_17, List.mem_cons, List.not_mem_nil, or_false] at ha; rcases ha with rfl <;> decide +kernel) (fun gh => x_X8_umbrellas_17 d) (by decide +kernel)
def q_X8_umbrellas_18 : List (Nat × Nat) := []
noncomputable def al_X8_umbrellas_18 : zAq := [(some (.inl 2147483647), [])]
noncomputable def fm_X8_umbrellas_18 : List zFm := [(0, [], (fun vs => [.inr (.ref 0), .inl 6442450944, .inl 8589934591]), (fun vs => zP q_X8_umbrellas_18), (fun vs => Nat.sub (Nat.add 0 0) 0))]
def bf_X8_umbrellas_18 : List Nat := []
theorem r_X8_umbrellas_18_0 : zbox [] (fun vs => zFrun (zpost (zAlq al_X8_umbrellas_18)) 1000 t_X8_umbrellas fm_X8_umbrellas_18 bf_X8_umbrellas_18 (0, vs)) = true := by decide +kernel
set_option maxRecDepth 100000 in
theorem x_X8_umbrellas_18 (d : Nat) : zS l G gh (d + 8) (zpost (zAlq al_X8_umbrellas_18)) n_X8_umbrellas (zn 0 p_X8_umbrellas 0) (zwc (0, [.inr (.ref 0), .inl 6442450944, .inl 8589934591], zP q_X8_umbrellas_18) 0) := zentry (tt_X8_umbrellas d) fm_X8_umbrellas_18 bf_X8_umbrellas_18 1000 (by decide +kernel) rfl ⟨Nat.zero_lt_succ _, trivial⟩ (fun f hf => match f, hf with
  | 0, _ => fun vs hv => (zbox_t r_X8_umbrellas_18_0) vs hv
  | f + 1, h => absurd (show f + 1 < 1 from h) (Nat.not_lt.mpr (Nat.le_add_left 1 f)))
noncomputable def gs_X8_umbrellas_18 : zMt := zgq false [] 4 [.inr (.ref 0), .inl 6442450944, .inl 8589934591] q_X8_umbrellas_18 al_X8_umbrellas_18
set_option maxRecDepth 100000 in
theorem cs_X8_umbrellas_18 (d : Nat) : zC l G gh (d + 8) n_X8_umbrellas gs_X8_umbrellas_18 := zgq_ok0 (pcs := p_X8_umbrellas) (by decide) rfl rfl (fun a ha => by simp only [al_X8_umbrellas_18, List.mem_cons, List.not_mem_nil, or_false] at ha; rcases ha with rfl <;> decide +kernel) (fun gh => x_X8_umbrellas_18 d) (by decide +kernel)
def q_X8_umbrellas_19 : List (Nat × Nat) := []
noncomputable def al_X8_umbrellas_19 : zAq := [(some (.inl 2147483647), [])]
noncomputable def fm_X8_umbrellas_19 : List zFm := [(0, [], (fun vs => [.inr (.ref 0), .inl 9223372062624579583, .inl 8589934591]), (fun vs => zP q_X8_umbrellas_19), (fun vs => Nat.sub (Nat.add 0 0) 0))]
def bf_X8_umbrellas_19 : List Nat := []
theorem r_X8_umbrellas_19_0 : zbox [] (fun vs => zFrun (zpost (zAlq al_X8_umbrellas_19)) 1000 t_X8_umbrellas fm_X8_umbrellas_19 bf_X8_umbrellas_19 (0, vs)) = true := by decide +kernel
set_option maxRecDepth 100000 in
theorem x_X8_umbrellas_19 (d : Nat) : zS l G gh (d + 8) (zpost (zAlq al_X8_umbrellas_19)) n_X8_umbrellas (zn 0 p_X8_umbrellas 0) (zwc (0, [.inr (.ref 0), .inl 9223372062624579583, .inl 8589934591], zP q_X8_umbrellas_19) 0) := zentry (tt_X8_umbrellas d) fm_X8_umbrellas_19 bf_X8_umbrellas_19 1000 (by decide +kernel) rfl ⟨Nat.zero_lt_succ _, trivial⟩ (fun f hf => match f, hf with
  | 0, _ => fun vs hv => (zbox_t r_X8_umbrellas_19_0) vs hv
  | f + 1, h => absurd (show f + 1 < 1 from h) (Nat.not_lt.mpr (Nat.le_add_left 1 f)))
noncomputable def gs_X8_umbrellas_19 : zMt := zgq false [] 4 [.inr (.ref 0), .inl 9223372062624579583, .inl 8589934591] q_X8_umbrellas_19 al_X8_umbrellas_19
set_option maxRecDepth 100000 in
theorem cs_X8_umbrellas_19 (d : Nat) : zC l G gh (d + 8) n_X8_umbrellas gs_X8_umbrellas_19 := zgq_ok0 (pcs := p_X8_umbrellas) (by decide) rfl rfl (fun a ha => by simp only [al_X8_umbrellas_19, List.mem_cons, List.not_mem_nil, or_false] at ha; rcases ha with rfl <;> decide +kernel) (fun gh => x_X8_umbrellas_19 d) (by decide +kernel)
def q_X8_umbrellas_20 : List (Nat × Nat) := [(0, zk1), (9, zk21), (11, zk12), (12, zk12), (15, zk5), (16, zk18), (17, zk18), (18, zk19), (19, zk3), (20, zk7), (21, zk10), (255, zk7), (257, zk121), (258, zk125)]
noncomputable def al_X8_umbrellas_20 : zAq := [(some (.inl 9223372039002259519), [(0, zk1), (9, zk21), (11, zk12), (12, zk12), (15, zk5), (16, zk18), (17, zk18), (18, zk19), (19, zk4), (20, zk9), (21, zk10), (255, zk9), (257, zk122), (258, zk126)])]
noncomputable def fm_X8_umbrellas_20 : List zFm := [(0, [], (fun vs => [.inr (.ref 0), .inl 2147483649, .inl 2147483647]), (fun vs => zP q_X8_umbrellas_20), (fun vs => Nat.sub (Nat.add 0 0) 0))]
def bf_X8_umbrellas_20 : List Nat := []
theorem r_X8_umbrellas_20_0 : zbox [] (fun vs => zFrun (zpost (zAlq al_X8_umbrellas_20)) 1000 t_X8_umbrellas fm_X8_umbrellas_20 bf_X8_umbrellas_20 (0, vs)) = true := by decide +kernel
set_option maxRecDepth 100000 in
theorem x_X8_umbrellas_20 (d : Nat) : zS l G gh (d + 8) (zpost (zAlq al_X8_umbrellas_20)) n_X8_umbrellas (zn 0 p_X8_umbrellas 0) (zwc (0, [.inr (.ref 0), .inl 2147483649, .inl 2147483647], zP q_X8_umbrellas_20) 0) := zentry (tt_X8_umbrellas d) fm_X8_umbrellas_20 bf_X8_umbrellas_20 1000 (by decide +kernel) rfl ⟨Nat.zero_lt_succ _, trivial⟩ (fun f hf => match f, hf with
  | 0, _ => fun vs hv => (zbox_t r_X8_umbrellas_20_0) vs hv
  | f + 1, h => absurd (show f + 1 < 1 from h) (Nat.not_lt.mpr (Nat.le_add_left 1 f)))
noncomputable def gs_X8_umbrellas_20 : zMt := zgq false [] 4 [.inr (.ref 0), .inl 2147483649, .inl 2147483647] q_X8_umbrellas_20 al_X8_umbrellas_20
set_option maxRecDepth 100000 in
theorem cs_X8_umbrellas_20 (d : Nat) : zC l G gh (d + 8) n_X8_umbrellas gs_X8_umbrellas_20 := zgq_ok0 (pcs := p_X8_umbrellas) (by decide) rfl rfl (fun a ha => by simp only [al_X8_umbrellas_20, List.mem_cons, List.not_mem_nil, or_false] at ha; rcases ha with rfl <;> decide +kernel) (fun gh => x_X8_umbrellas_20 d) (by decide +kernel)
def q_X8_umbrellas_21 : List (Nat × Nat) := [(0, zk1), (9, zk21), (11, zk12), (12, zk12), (15, zk5), (16, zk18), (17, zk18), (18, zk19), (19, zk3), (20, zk7), (21, zk10), (255, zk7), (257, zk121), (258, zk125)]
noncomputable def al_X8_umbrellas_21 : zAq := [(some (.inl 8589934591), [(0, zk1), (9, zk21), (11, zk12), (12, zk12), (15, zk5), (16, zk18), (17, zk18), (18, zk19), (19, zk4), (20, zk9), (21, zk10), (255, zk9), (257, zk122), (258, zk126)])]
noncomputable def fm_X8_umbrellas_21 : List zFm := [(0, [], (fun vs => [.inr (.ref 0), .inl 2147483649, .inl 2147483648]), (fun vs => zP q_X8_umbrellas_21), (fun vs => Nat.sub (Nat.add 0 0) 0))]
def bf_X8_umbrellas_21 : List Nat := []
theorem r_X8_umbrellas_21_0 : zbox [] (fun vs => zFrun (zpost (zAlq al_X8_umbrellas_21)) 1000 t_X8_umbrellas fm_X8_umbrellas_21 bf_X8_umbrellas_21 (0, vs)) = true := by decide +kernel
set_option maxRecDepth 100000 in
theorem x_X8_umbrellas_21 (d : Nat) : zS l G gh (d + 8) (zpost (zAlq al_X8_umbrellas_21)) n_X8_umbrellas (zn 0 p_X8_umbrellas 0) (zwc (0, [.inr (.ref 0), .inl 2147483649, .inl 2147483648], zP q_X8_umbrellas_21) 0) := zentry (tt_X8_umbrellas d) fm_X8_umbrellas_21 bf_X8_umbrellas_21 1000 (by decide +kernel) rfl ⟨Nat.zero_lt_succ _, trivial⟩ (fun f hf => match f, hf with
  | 0, _ => fun vs hv => (zbox_t r_X8_umbrellas_21_0) vs hv
  | f + 1, h => absurd (show f + 1 < 1 from h) (Nat.not_lt.mpr (Nat.le_add_left 1 f)))
noncomputable def gs_X8_umbrellas_21 : zMt := zgq false [] 4 [.inr (.ref 0), .inl 2147483649, .inl 2147483648] q_X8_umbrellas_21 al_X8_umbrellas_21
set_option maxRecDepth 100000 in
theorem cs_X8_umbrellas_21 (d : Nat) : zC l G gh (d + 8) n_X8_umbrellas gs_X8_umbrellas_21 := zgq_ok0 (pcs := p_X8_umbrellas) (by decide) rfl rfl (fun a ha => by simp only [al_X8_umbrellas_21, List.mem_cons, List.not_mem_nil, or_false] at ha; rcases ha with rfl <;> decide +kernel) (fun gh => x_X8_umbrellas_21 d) (by decide +kernel)
def q_X8_umbrellas_22 : List (Nat × Nat) := []
noncomputable def al_X8_umbrellas_22 : zAq := [(some (.inl 2147483647), [])]
noncomputable def fm_X8_umbrellas_22 : List zFm := [(0, [], (fun vs => [.inr (.ref 0), .inl 2147483649, .inl 2147483649]), (fun vs => zP q_X8_umbrellas_22), (fun vs => Nat.sub (Nat.add 0 0) 0))]
def bf_X8_umbrellas_22 : List Nat := []
theorem r_X8_umbrellas_22_0 : zbox [] (fun vs => zFrun (zpost (zAlq al_X8_umbrellas_22)) 1000 t_X8_umbrellas fm_X8_umbrellas_22 bf_X8_umbrellas_22 (0, vs)) = true := by decide +kernel
set_option maxRecDepth 100000 in
theorem x_X8_umbrellas_22 (d : Nat) : zS l G gh (d + 8) (zpost (zAlq al_X8_umbrellas_22)) n_X8_umbrellas (zn 0 p_X8_umbrellas 0) (zwc (0, [.inr (.ref 0), .inl 2147483649, .inl 2147483649], zP q_X8_umbrellas_22) 0) := zentry (tt_X8_umbrellas d) fm_X8_umbrellas_22 bf_X8_umbrellas_22 1000 (by decide +kernel) rfl ⟨Nat.zero_lt_succ _, trivial⟩ (fun f hf => match f, hf with
  | 0, _ => fun vs hv => (zbox_t r_X8_umbrellas_22_0) vs hv
  | f + 1, h => absurd (show f + 1 < 1 from h) (Nat.not_lt.mpr (Nat.le_add_left 1 f)))
noncomputable def gs_X8_umbrellas_22 : zMt := zgq false [] 4 [.inr (.ref 0), .inl 2147483649, .inl 2147483649] q_X8_umbrellas_22 al_X8_umbrellas_22
set_option maxRecDepth 100000 in
theorem cs_X8_umbrellas_22 (d : Nat) : zC l G gh (d + 8) n_X8_umbrellas gs_X8_umbrellas_22 := zgq_ok0 (pcs := p_X8_umbrellas) (by decide) rfl rfl (fun a ha => by simp only [al_X8_umbrellas_22, List.mem_cons, List.not_mem_nil, or_false] at ha; rcases ha with rfl <;> decide +kernel) (fun gh => x_X8_umbrellas_22 d) (by decide +kernel)
def q_X8_umbrellas_23 : List (Nat × Nat) := []
noncomputable def al_X8_umbrellas_23 : zAq := [(some (.inl 2147483647), [])]
noncomputable def fm_X8_umbrellas_23 : List zFm := [(0, [], (fun vs => [.inr (.ref 0), .inl 2147483649, .inl 2147483650]), (fun vs => zP q_X8_umbrellas_23), (fun vs => Nat.sub (Nat.add 0 0) 0))]
def bf_X8_umbrellas_23 : List Nat := []
theorem r_X8_umbrellas_23_0 : zbox [] (fun vs => zFrun (zpost (zAlq al_X8_umbrellas_23)) 1000 t_X8_umbrellas fm_X8_umbrellas_23 bf_X8_umbrellas_23 (0, vs)) = true := by decide +kernel
set_option maxRecDepth 100000 in
theorem x_X8_umbrellas_23 (d : Nat) : zS l G gh (d + 8) (zpost (zAlq al_X8_umbrellas_23)) n_X8_umbrellas (zn 0 p_X8_umbrellas 0) (zwc (0, [.inr (.ref 0), .inl 2147483649, .inl 2147483650], zP q_X8_umbrellas_23) 0) := zentry (tt_X8_umbrellas d) fm_X8_umbrellas_23 bf_X8_umbrellas_23 1000 (by decide +kernel) rfl ⟨Nat.zero_lt_succ _, trivial⟩ (fun f hf => match f, hf with
  | 0, _ => fun vs hv => (zbox_t r_X8_umbrellas_23_0) vs hv
  | f + 1, h => absurd (show f + 1 < 1 from h) (Nat.not_lt.mpr (Nat.le_add_left 1 f)))
noncomputable def gs_X8_umbrellas_23 : zMt := zgq false [] 4 [.inr (.ref 0), .inl 2147483649, .inl 2147483650] q_X8_umbrellas_23 al_X8_umbrellas_23
set_option maxRecDepth 100000 in
theorem cs_X8_umbrellas_23 (d : Nat) : zC l G gh (d + 8) n_X8_umbrellas gs_X8_umbrellas_23 := zgq_ok0 (pcs := p_X8_umbrellas) (by decide) rfl rfl (fun a ha => by simp only [al_X8_umbrellas_23, List.mem_cons, List.not_mem_nil, or_false] at ha; rcases ha with rfl <;> decide +kernel) (fun gh => x_X8_umbrellas_23 d) (by decide +kernel)
def q_X8_umbrellas_24 : List (Nat × Nat) := []
noncomputable def al_X8_umbrellas_24 : zAq := [(some (.inl 2147483647), [])]
noncomputable def fm_X8_umbrellas_24 : List zFm := [(0, [], (fun vs => [.inr (.ref 0), .inl 2147483649, .inl 6442450942]), (fun vs => zP q_X8_umbrellas_24), (fun vs => Nat.sub (Nat.add 0 0) 0))]
def bf_X8_umbrellas_24 : List Nat := []
theorem r_X8_umbrellas_24_0 : zbox [] (fun vs => zFrun (zpost (zAlq al_X8_umbrellas_24)) 1000 t_X8_umbrellas fm_X8_umbrellas_24 bf_X8_umbrellas_24 (0, vs)) = true := by decide +kernel
set_option maxRecDepth 100000 in
theorem x_X8_umbrellas_24 (d : Nat) : zS l G gh (d + 8) (zpost (zAlq al_X8_umbrellas_24)) n_X8_umbrellas (zn 0 p_X8_umbrellas 0) (zwc (0, [.inr (.ref 0), .inl 2147483649, .inl 6442450942], zP q_X8_umbrellas_24) 0) := zentry (tt_X8_umbrellas d) fm_X8_umbrellas_24 bf_X8_umbrellas_24 1000 (by decide +kernel) rfl ⟨Nat.zero_lt_succ _, trivial⟩ (fun f hf => match f, hf with
  | 0, _ => fun vs hv => (zbox_t r_X8_umbrellas_24_0) vs hv
  | f + 1, h => absurd (show f + 1 < 1 from h) (Nat.not_lt.mpr (Nat.le_add_left 1 f)))
noncomputable def gs_X8_umbrellas_24 : zMt := zgq false [] 4 [.inr (.ref 0), .inl 2147483649, .inl 6442450942] q_X8_umbrellas_24 al_X8_umbrellas_24
set_option maxRecDepth 100000 in
theorem cs_X8_umbrellas_24 (d : Nat) : zC l G gh (d + 8) n_X8_umbrellas gs_X8_umbrellas_24 := zgq_ok0 (pcs := p_X8_umbrellas) (by decide) rfl rfl (fun a ha => by simp only [al_X8_umbrellas_24, List.mem_cons, List.not_mem_nil, or_false] at ha; rcases ha with rfl <;> decide +kernel) (fun gh => x_X8_umbrellas_24 d) (by decide +kernel)
def q_X8_umbrellas_25 : List (Nat × Nat) := []
noncomputable def al_X8_umbrellas_25 : zAq := [(some (.inl 2147483647), [])]
noncomputable def fm_X8_umbrellas_25 : List zFm := [(0, [], (fun vs => [.inr (.ref 0), .inl 2147483649, .inl 9223372058329612287]), (fun vs => zP q_X8_umbrellas_25), (fun vs => Nat.sub (Nat.add 0 0) 0))]
def bf_X8_umbrellas_25 : List Nat := []
theorem r_X8_umbrellas_25_0 : zbox [] (fun vs => zFrun (zpost (zAlq al_X8_umbrellas_25)) 1000 t_X8_umbrellas fm_X8_umbrellas_25 bf_X8_umbrellas_25 (0, vs)) = true := by decide +kernel
set_option maxRecDepth 100000 in
theorem x_X8_umbrellas_25 (d : Nat) : zS l G gh (d + 8) (zpost (zAlq al_X8_umbrellas_25)) n_X8_umbrellas (zn 0 p_X8_umbrellas 0) (zwc (0, [.inr (.ref 0), .inl 2147483649, .inl 9223372058329612287], zP q_X8_umbrellas_25) 0) := zentry (tt_X8_umbrellas d) fm_X8_umbrellas_25 bf_X8_umbrellas_25 1000 (by decide +kernel) rfl ⟨Nat.zero_lt_succ _, trivial⟩ (fun f hf => match f, hf with
  | 0, _ => fun vs hv => (zbox_t r_X8_umbrellas_25_0) vs hv
  | f + 1, h => absurd (show f + 1 < 1 from h) (Nat.not_lt.mpr (Nat.le_add_left 1 f)))
noncomputable def gs_X8_umbrellas_25 : zMt := zgq false [] 4 [.inr (.ref 0), .inl 2147483649, .inl 9223372058329612287] q_X8_umbrellas_25 al_X8_umbrellas_25
set_option maxRecDepth 100000 in
theorem cs_X8_umbrellas_25 (d : Nat) : zC l G gh (d + 8) n_X8_umbrellas gs_X8_umbrellas_25 := zgq_ok0 (pcs := p_X8_umbrellas) (by decide) rfl rfl (fun a ha => by simp only [al_X8_umbrellas_25, List.mem_cons, List.not_mem_nil, or_false] at ha; rcases ha with rfl <;> decide +kernel) (fun gh => x_X8_umbrellas_25 d) (by decide +kernel)
def q_X8_umbrellas_26 : List (Nat × Nat) := [(0, zk1), (9, zk21), (11, zk12), (12, zk12), (15, zk5), (16, zk18), (17, zk18), (18, zk19), (19, zk3), (20, zk7), (21, zk10), (255, zk7), (257, zk121), (258, zk125)]
noncomputable def al_X8_umbrellas_26 : zAq := [(some (.inl 9223372039002259519), [(0, zk1), (9, zk21), (11, zk12), (12, zk12), (15, zk5), (16, zk18), (17, zk18), (18, zk19), (19, zk4), (20, zk9), (21, zk10), (255, zk9), (257, zk122), (258, zk126)])]
noncomputable def fm_X8_umbrellas_26 : List zFm := [(0, [], (fun vs => [.inr (.ref 0), .inl 2147483650, .inl 2147483647]), (fun vs => zP q_X8_umbrellas_26), (fun vs => Nat.sub (Nat.add 0 0) 0))]
def bf_X8_umbrellas_26 : List Nat := []
theorem r_X8_umbrellas_26_0 : zbox [] (fun vs => zFrun (zpost (zAlq al_X8_umbrellas_26)) 1000 t_X8_umbrellas fm_X8_umbrellas_26 bf_X8_umbrellas_26 (0, vs)) = true := by decide +kernel
set_option maxRecDepth 100000 in
theorem x_X8_umbrellas_26 (d : Nat) : zS l G gh (d + 8) (zpost (zAlq al_X8_umbrellas_26)) n_X8_umbrellas (zn 0 p_X8_umbrellas 0) (zwc (0, [.inr (.ref 0), .inl 2147483650, .inl 2147483647], zP q_X8_umbrellas_26) 0) := zentry (tt_X8_umbrellas d) fm_X8_umbrellas_26 bf_X8_umbrellas_26 1000 (by decide +kernel) rfl ⟨Nat.zero_lt_succ _, trivial⟩ (fun f hf => match f, hf with
  | 0, _ => fun vs hv => (zbox_t r_X8_umbrellas_26_0) vs hv
  | f + 1, h => absurd (show f + 1 < 1 from h) (Nat.not_lt.mpr (Nat.le_add_left 1 f)))
noncomputable def gs_X8_umbrellas_26 : zMt := zgq false [] 4 [.inr (.ref 0), .inl 2147483650, .inl 2147483647] q_X8_umbrellas_26 al_X8_umbrellas_26
set_option maxRecDepth 100000 in
theorem cs_X8_umbrellas_26 (d : Nat) : zC l G gh (d + 8) n_X8_umbrellas gs_X8_umbrellas_26 := zgq_ok0 (pcs := p_X8_umbrellas) (by decide) rfl rfl (fun a ha => by simp only [al_X8_umbrellas_26, List.mem_cons, List.not_mem_nil, or_false] at ha; rcases ha with rfl <;> decide +kernel) (fun gh => x_X8_umbrellas_26 d) (by decide +kernel)
def q_X8_umbrellas_27 : List (Nat × Nat) := [(0, zk1), (9, zk21), (11, zk12), (12, zk12), (15, zk5), (16, zk18), (17, zk18), (18, zk19), (19, zk3), (20, zk7), (21, zk10), (255, zk7), (257, zk121), (258, zk125)]
noncomputable def al_X8_umbrellas_27 : zAq := [(some (.inl 8589934591), [(0, zk1), (9, zk21), (11, zk12), (12, zk12), (15, zk5), (16, zk18), (17, zk18), (18, zk19), (19, zk4), (20, zk9), (21, zk10), (255, zk9), (257, zk122), (258, zk126)])]
noncomputable def fm_X8_umbrellas_27 : List zFm := [(0, [], (fun vs => [.inr (.ref 0), .inl 2147483650, .inl 2147483648]), (fun vs => zP q_X8_umbrellas_27), (fun vs => Nat.sub (Nat.add 0 0) 0))]
def bf_X8_umbrellas_27 : List Nat := []
theorem r_X8_umbrellas_27_0 : zbox [] (fun vs => zFrun (zpost (zAlq al_X8_umbrellas_27)) 1000 t_X8_umbrellas fm_X8_umbrellas_27 bf_X8_umbrellas_27 (0, vs)) = true := by decide +kernel
set_option maxRecDepth 100000 in
theorem x_X8_umbrellas_27 (d : Nat) : zS l G gh (d + 8) (zpost (zAlq al_X8_umbrellas_27)) n_X8_umbrellas (zn 0 p_X8_umbrellas 0) (zwc (0, [.inr (.ref 0), .inl 2147483650, .inl 2147483648], zP q_X8_umbrellas_27) 0) := zentry (tt_X8_umbrellas d) fm_X8_umbrellas_27 bf_X8_umbrellas_27 1000 (by decide +kernel) rfl ⟨Nat.zero_lt_succ _, trivial⟩ (fun f hf => match f, hf with
  | 0, _ => fun vs hv => (zbox_t r_X8_umbrellas_27_0) vs hv
  | f + 1, h => absurd (show f + 1 < 1 from h) (Nat.not_lt.mpr (Nat.le_add_left 1 f)))
noncomputable def gs_X8_umbrellas_27 : zMt := zgq false [] 4 [.inr (.ref 0), .inl 2147483650, .inl 2147483648] q_X8_umbrellas_27 al_X8_umbrellas_27
set_option maxRecDepth 100000 in
theorem cs_X8_umbrellas_27 (d : Nat) : zC l G gh (d + 8) n_X8_umbrellas gs_X8_umbrellas_27 := zgq_ok0 (pcs := p_X8_umbrellas) (by decide) rfl rfl (fun a ha => by simp only [al_X8_umbrellas_27, List.mem_cons, List.not_mem_nil, or_false] at ha; rcases ha with rfl <;> decide +kernel) (fun gh => x_X8_umbrellas_27 d) (by decide +kernel)
def q_X8_umbrellas_28 : List (Nat × Nat) := [(0, zk1), (9, zk21), (11, zk12), (12, zk12), (15, zk5), (16, zk18), (17, zk18), (18, zk19), (19, zk3), (20, zk7), (21, zk10), (255, zk7), (257, zk121), (258, zk125)]
noncomputable def al_X8_umbrellas_28 : zAq := [(some (.inl 8589934591), [(0, zk1), (9, zk21), (11, zk12), (12, zk12), (15, zk5), (16, zk18), (17, zk18), (18, zk19), (19, zk4), (20, zk9), (21, zk10), (255, zk9), (257, zk122), (258, zk126)])]
noncomputable def fm_X8_umbrellas_28 : List zFm := [(0, [], (fun vs => [.inr (.ref 0), .inl 2147483650, .inl 2147483649]), (fun vs => zP q_X8_umbrellas_28), (fun vs => Nat.sub (Nat.add 0 0) 0))]
def bf_X8_umbrellas_28 : List Nat := []
theorem r_X8_umbrellas_28_0 : zbox [] (fun vs => zFrun (zpost (zAlq al_X8_umbrellas_28)) 1000 t_X8_umbrellas fm_X8_umbrellas_28 bf_X8_umbrellas_28 (0, vs)) = true := by decide +kernel
set_option maxRecDepth 100000 in
theorem x_X8_umbrellas_28 (d : Nat) : zS l G gh (d + 8) (zpost (zAlq al_X8_umbrellas_28)) n_X8_umbrellas (zn 0 p_X8_umbrellas 0) (zwc (0, [.inr (.ref 0), .inl 2147483650, .inl 2147483649], zP q_X8_umbrellas_28) 0) := zentry (tt_X8_umbrellas d) fm_X8_umbrellas_28 bf_X8_umbrellas_28 1000 (by decide +kernel) rfl ⟨Nat.zero_lt_succ _, trivial⟩ (fun f hf => match f, hf with
  | 0, _ => fun vs hv => (zbox_t r_X8_umbrellas_28_0) vs hv
  | f + 1, h => absurd (show f + 1 < 1 from h) (Nat.not_lt.mpr (Nat.le_add_left 1 f)))
noncomputable def gs_X8_umbrellas_28 : zMt := zgq false [] 4 [.inr (.ref 0), .inl 2147483650, .inl 2147483649] q_X8_umbrellas_28 al_X8_umbrellas_28
set_option maxRecDepth 100000 in
theorem cs_X8_umbrellas_28 (d : Nat) : zC l G gh (d + 8) n_X8_umbrellas gs_X8_umbrellas_28 := zgq_ok0 (pcs := p_X8_umbrellas) (by decide) rfl rfl (fun a ha => by simp only [al_X8_umbrellas_28, List.mem_cons, List.not_mem_nil, or_false] at ha; rcases ha with rfl <;> decide +kernel) (fun gh => x_X8_umbrellas_28 d) (by decide +kernel)
def q_X8_umbrellas_29 : List (Nat × Nat) := []
noncomputable def al_X8_umbrellas_29 : zAq := [(some (.inl 2147483647), [])]
noncomputable def fm_X8_umbrellas_29 : List zFm := [(0, [], (fun vs => [.inr (.ref 0), .inl 2147483650, .inl 2147483650]), (fun vs => zP q_X8_umbrellas_29), (fun vs => Nat.sub (Nat.add 0 0) 0))]
def bf_X8_umbrellas_29 : List Nat := []
theorem r_X8_umbrellas_29_0 : zbox [] (fun vs => zFrun (zpost (zAlq al_X8_umbrellas_29)) 1000 t_X8_umbrellas fm_X8_umbrellas_29 bf_X8_umbrellas_29 (0, vs)) = true := by decide +kernel
set_option maxRecDepth 100000 in
theorem x_X8_umbrellas_29 (d : Nat) : zS l G gh (d + 8) (zpost (zAlq al_X8_umbrellas_29)) n_X8_umbrellas (zn 0 p_X8_umbrellas 0) (zwc (0, [.inr (.ref 0), .inl 2147483650, .inl 2147483650], zP q_X8_umbrellas_29) 0) := zentry (tt_X8_umbrellas d) fm_X8_umbrellas_29 bf_X8_umbrellas_29 1000 (by decide +kernel) rfl ⟨Nat.zero_lt_succ _, trivial⟩ (fun f hf => match f, hf with
  | 0, _ => fun vs hv => (zbox_t r_X8_umbrellas_29_0) vs hv
  | f + 1, h => absurd (show f + 1 < 1 from h) (Nat.not_lt.mpr (Nat.le_add_left 1 f)))
noncomputable def gs_X8_umbrellas_29 : zMt := zgq false [] 4 [.inr (.ref 0), .inl 2147483650, .inl 2147483650] q_X8_umbrellas_29 al_X8_umbrellas_29
set_option maxRecDepth 100000 in
theorem cs_X8_umbrellas_29 (d : Nat) : zC l G gh (d + 8) n_X8_umbrellas gs_X8_umbrellas_29 := zgq_ok0 (pcs := p_X8_umbrellas) (by decide) rfl rfl (fun a ha => by simp only [al_X8_umbrellas_29, List.mem_cons, List.not_mem_nil, or_false] at ha; rcases ha with rfl <;> decide +kernel) (fun gh => x_X8_umbrellas_29 d) (by decide +kernel)
def q_X8_umbrellas_30 : List (Nat × Nat) := []
noncomputable def al_X8_umbrellas_30 : zAq := [(some (.inl 2147483647), [])]
noncomputable def fm_X8_umbrellas_30 : List zFm := [(0, [], (fun vs => [.inr (.ref 0), .inl 2147483650, .inl 6442450942]), (fun vs => zP q_X8_umbrellas_30), (fun vs => Nat.sub (Nat.add 0 0) 0))]
def bf_X8_umbrellas_30 : List Nat := []
theorem r_X8_umbrellas_30_0 : zbox [] (fun vs => zFrun (zpost (zAlq al_X8_umbrellas_30)) 1000 t_X8_umbrellas fm_X8_umbrellas_30 bf_X8_umbrellas_30 (0, vs)) = true := by decide +kernel
set_option maxRecDepth 100000 in
theorem x_X8_umbrellas_30 (d : Nat) : zS l G gh (d + 8) (zpost (zAlq al_X8_umbrellas_30)) n_X8_umbrellas (zn 0 p_X8_umbrellas 0) (zwc (0, [.inr (.ref 0), .inl 2147483650, .inl 6442450942], zP q_X8_umbrellas_30) 0) := zentry (tt_X8_umbrellas d) fm_X8_umbrellas_30 bf_X8_umbrellas_30 1000 (by decide +kernel) rfl ⟨Nat.zero_lt_succ _, trivial⟩ (fun f hf => match f, hf with
  | 0, _ => fun vs hv => (zbox_t r_X8_umbrellas_30_0) vs hv
  | f + 1, h => absurd (show f + 1 < 1 from h) (Nat.not_lt.mpr (Nat.le_add_left 1 f)))
noncomputable def gs_X8_umbrellas_30 : zMt := zgq false [] 4 [.inr (.ref 0), .inl 2147483650, .inl 6442450942] q_X8_umbrellas_30 al_X8_umbrellas_30
set_option maxRecDepth 100000 in
theorem cs_X8_umbrellas_30 (d : Nat) : zC l G gh (d + 8) n_X8_umbrellas gs_X8_umbrellas_30 := zgq_ok0 (pcs := p_X8_umbrellas) (by decide) rfl rfl (fun a ha => by simp only [al_X8_umbrellas_30, List.mem_cons, List.not_mem_nil, or_false] at ha; rcases ha with rfl <;> decide +kernel) (fun gh => x_X8_umbrellas_30 d) (by decide +kernel)
def q_X8_umbrellas_31 : List (Nat × Nat) := []
noncomputable def al_X8_umbrellas_31 : zAq := [(some (.inl 2147483647), [])]
noncomputable def fm_X8_umbrellas_31 : List zFm := [(0, [], (fun vs => [.inr (.ref 0), .inl 2147483650, .inl 9223372058329612287]), (fun vs => zP q_X8_umbrellas_31), (fun vs => Nat.sub (Nat.add 0 0) 0))]
def bf_X8_umbrellas_31 : List Nat := []
theorem r_X8_umbrellas_31_0 : zbox [] (fun vs => zFrun (zpost (zAlq al_X8_umbrellas_31)) 1000 t_X8_umbrellas fm_X8_umbrellas_31 bf_X8_umbrellas_31 (0, vs)) = true := by decide +kernel
set_option maxRecDepth 100000 in
theorem x_X8_umbrellas_31 (d : Nat) : zS l G gh (d + 8) (zpost (zAlq al_X8_umbrellas_31)) n_X8_umbrellas (zn 0 p_X8_umbrellas 0) (zwc (0, [.inr (.ref 0), .inl 2147483650, .inl 9223372058329612287], zP q_X8_umbrellas_31) 0) := zentry (tt_X8_umbrellas d) fm_X8_umbrellas_31 bf_X8_umbrellas_31 1000 (by decide +kernel) rfl ⟨Nat.zero_lt_succ _, trivial⟩ (fun f hf => match f, hf with
  | 0, _ => fun vs hv => (zbox_t r_X8_umbrellas_31_0) vs hv
  | f + 1, h => absurd (show f + 1 < 1 from h) (Nat.not_lt.mpr (Nat.le_add_left 1 f)))
noncomputable def gs_X8_umbrellas_31 : zMt := zgq false [] 4 [.inr (.ref 0), .inl 2147483650, .inl 9223372058329612287] q_X8_umbrellas_31 al_X8_umbrellas_31
set_option maxRecDepth 100000 in
theorem cs_X8_umbrellas_31 (d : Nat) : zC l G gh (d + 8) n_X8_umbrellas gs_X8_umbrellas_31 := zgq_ok0 (pcs := p_X8_umbrellas) (by decide) rfl rfl (fun a ha => by simp only [al_X8_umbrellas_31, List.mem_cons, List.not_mem_nil, or_false] at ha; rcases ha with rfl <;> decide +kernel) (fun gh => x_X8_umbrellas_31 d) (by decide +kernel)
def q_X8_umbrellas_32 : List (Nat × Nat) := [(0, zk1), (9, zk21), (11, zk12), (12, zk12), (15, zk5), (16, zk18), (17, zk18), (18, zk19), (19, zk3), (20, zk7), (21, zk10), (255, zk7), (257, zk121), (258, zk125)]
noncomputable def al_X8_umbrellas_32 : zAq := [(some (.inl 9223372039002259519), [(0, zk1), (9, zk21), (11, zk12), (12, zk12), (15, zk5), (16, zk18), (17, zk18), (18, zk19), (19, zk4), (20, zk9), (21, zk10), (255, zk9), (257, zk122), (258, zk126)])]
noncomputable def fm_X8_umbrellas_32 : List zFm := [(0, [], (fun vs => [.inr (.ref 0), .inl 2147483651, .inl 2147483647]), (fun vs => zP q_X8_umbrellas_32), (fun vs => Nat.sub (Nat.add 0 0) 0))]
def bf_X8_umbrellas_32 : List Nat := []
theorem r_X8_umbrellas_32_0 : zbox [] (fun vs => zFrun (zpost (zAlq al_X8_umbrellas_32)) 1000 t_X8_umbrellas fm_X8_umbrellas_32 bf_X8_umbrellas_32 (0, vs)) = true := by decide +kernel
set_option maxRecDepth 100000 in
theorem x_X8_umbrellas_32 (d : Nat) : zS l G gh (d + 8) (zpost (zAlq al_X8_umbrellas_32)) n_X8_umbrellas (zn 0 p_X8_umbrellas 0) (zwc (0, [.inr (.ref 0), .inl 2147483651, .inl 2147483647], zP q_X8_umbrellas_32) 0) := zentry (tt_X8_umbrellas d) fm_X8_umbrellas_32 bf_X8_umbrellas_32 1000 (by decide +kernel) rfl ⟨Nat.zero_lt_succ _, trivial⟩ (fun f hf => match f, hf with
  | 0, _ => fun vs hv => (zbox_t r_X8_umbrellas_32_0) vs hv
  | f + 1, h => absurd (show f + 1 < 1 from h) (Nat.not_lt.mpr (Nat.le_add_left 1 f)))
noncomputable def gs_X8_umbrellas_32 : zMt := zgq false [] 4 [.inr (.ref 0), .inl 2147483651, .inl 2147483647] q_X8_umbrellas_32 al_X8_umbrellas_32
set_option maxRecDepth 100000 in
theorem cs_X8_umbrellas_32 (d : Nat) : zC l G gh (d + 8) n_X8_umbrellas gs_X8_umbrellas_32 := zgq_ok0 (pcs := p_X8_umbrellas) (by decide) rfl rfl (fun a ha => by simp only [al_X8_umbrellas_32, List.mem_cons, List.not_mem_nil, or_false] at ha; rcases ha with rfl <;> decide +kernel) (fun gh => x_X8_umbrellas_32 d) (by decide +kernel)
def q_X8_umbrellas_33 : List (Nat × Nat) := [(0, zk1), (9, zk21), (11, zk12), (12, zk12), (15, zk5), (16, zk18), (17, zk18), (18, zk19), (19, zk3), (20, zk7), (21, zk10), (255, zk7), (257, zk121), (258, zk125)]
noncomputable def al_X8_umbrellas_33 : zAq := [(some (.inl 8589934591), [(0, zk1), (9, zk21), (11, zk12), (12, zk12), (15, zk5), (16, zk18), (17, zk18), (18, zk19), (19, zk4), (20, zk9), (21, zk10), (255, zk9), (257, zk122), (258, zk126)])]
noncomputable def fm_X8_umbrellas_33 : List zFm := [(0, [], (fun vs => [.inr (.ref 0), .inl 2147483651, .inl 2147483648]), (fun vs => zP q_X8_umbrellas_33), (fun vs => Nat.sub (Nat.add 0 0) 0))]
def bf_X8_umbrellas_33 : List Nat := []
theorem r_X8_umbrellas_33_0 : zbox [] (fun vs => zFrun (zpost (zAlq al_X8_umbrellas_33)) 1000 t_X8_umbrellas fm_X8_umbrellas_33 bf_X8_umbrellas_33 (0, vs)) = true := by decide +kernel
set_option maxRecDepth 100000 in
theorem x_X8_umbrellas_33 (d : Nat) : zS l G gh (d + 8) (zpost (zAlq al_X8_umbrellas_33)) n_X8_umbrellas (zn 0 p_X8_umbrellas 0) (zwc (0, [.inr (.ref 0), .inl 2147483651, .inl 2147483648], zP q_X8_umbrellas_33) 0) := zentry (tt_X8_umbrellas d) fm_X8_umbrellas_33 bf_X8_umbrellas_33 1000 (by decide +kernel) rfl ⟨Nat.zero_lt_succ _, trivial⟩ (fun f hf => match f, hf with
  | 0, _ => fun vs hv => (zbox_t r_X8_umbrellas_33_0) vs hv
  | f + 1, h => absurd (show f + 1 < 1 from h) (Nat.not_lt.mpr (Nat.le_add_left 1 f)))
noncomputable def gs_X8_umbrellas_33 : zMt := zgq false [] 4 [.inr (.ref 0), .inl 2147483651, .inl 2147483648] q_X8_umbrellas_33 al_X8_umbrellas_33
set_option maxRecDepth 100000 in
theorem cs_X8_umbrellas_33 (d : Nat) : zC l G gh (d + 8) n_X8_umbrellas gs_X8_umbrellas_33 := zgq_ok0 (pcs := p_X8_umbrellas) (by decide) rfl rfl (fun a ha => by simp only [al_X8_umbrellas_33, List.mem_cons, List.not_mem_nil, or_false] at ha; rcases ha with rfl <;> decide +kernel) (fun gh => x_X8_umbrellas_33 d) (by decide +kernel)
def q_X8_umbrellas_34 : List (Nat × Nat) := [(0, zk1), (9, zk21), (11, zk12), (12, zk12), (15, zk5), (16, zk18), (17, zk18), (18, zk19), (19, zk3), (20, zk7), (21, zk10), (255, zk7), (257, zk121), (258, zk125)]
noncomputable def al_X8_umbrellas_34 : zAq := [(some (.inl 8589934591), [(0, zk1), (9, zk21), (11, zk12), (12, zk12), (15, zk5), (16, zk18), (17, zk18), (18, zk19), (19, zk4), (20, zk9), (21, zk10), (255, zk9), (257, zk122), (258, zk126)])]
noncomputable def fm_X8_umbrellas_34 : List zFm := [(0, [], (fun vs => [.inr (.ref 0), .inl 2147483651, .inl 2147483649]), (fun vs => zP q_X8_umbrellas_34), (fun vs => Nat.sub (Nat.add 0 0) 0))]
def bf_X8_umbrellas_34 : List Nat := []
theorem r_X8_umbrellas_34_0 : zbox [] (fun vs => zFrun (zpost (zAlq al_X8_umbrellas_34)) 1000 t_X8_umbrellas fm_X8_umbrellas_34 bf_X8_umbrellas_34 (0, vs)) = true := by decide +kernel
set_option maxRecDepth 100000 in
theorem x_X8_umbrellas_34 (d : Nat) : zS l G gh (d + 8) (zpost (zAlq al_X8_umbrellas_34)) n_X8_umbrellas (zn 0 p_X8_umbrellas 0) (zwc (0, [.inr (.ref 0), .inl 2147483651, .inl 2147483649], zP q_X8_umbrellas_34) 0) := zentry (tt_X8_umbrellas d) fm_X8_umbrellas_34 bf_X8_umbrellas_34 1000 (by decide +kernel) rfl ⟨Nat.zero_lt_succ _, trivial⟩ (fun f hf => match f, hf with
  | 0, _ => fun vs hv => (zbox_t r_X8_umbrellas_34_0) vs hv
  | f + 1, h => absurd (show f + 1 < 1 from h) (Nat.not_lt.mpr (Nat.le_add_left 1 f)))
noncomputable def gs_X8_umbrellas_34 : zMt := zgq false [] 4 [.inr (.ref 0), .inl 2147483651, .inl 2147483649] q_X8_umbrellas_34 al_X8_umbrellas_34
set_option maxRecDepth 100000 in
theorem cs_X8_umbrellas_34 (d : Nat) : zC l G gh (d + 8) n_X8_umbrellas gs_X8_umbrellas_34 := zgq_ok0 (pcs := p_X8_umbrellas) (by decide) rfl rfl (fun a ha => by simp only [al_X8_umbrellas_34, List.mem_cons, List.not_mem_nil, or_false] at ha; rcases ha with rfl <;> decide +kernel) (fun gh => x_X8_umbrellas_34 d) (by decide +kernel)
def q_X8_umbrellas_35 : List (Nat × Nat) := [(0, zk1), (9, zk21), (11, zk12), (12, zk12), (15, zk5), (16, zk18), (17, zk18), (18, zk19), (19, zk3), (20, zk7), (21, zk10), (255, zk7), (257, zk121), (258, zk125)]
noncomputable def al_X8_umbrellas_35 : zAq := [(some (.inl 8589934591), [(0, zk1), (9, zk21), (11, zk12), (12, zk12), (15, zk5), (16, zk18), (17, zk18), (18, zk19), (19, zk4), (20, zk9), (21, zk10), (255, zk9), (257, zk122), (258, zk126)])]
noncomputable def fm_X8_umbrellas_35 : List zFm := [(0, [], (fun vs => [.inr (.ref 0), .inl 2147483651, .inl 2147483650]), (fun vs => zP q_X8_umbrellas_35), (fun vs => Nat.sub (Nat.add 0 0) 0))]
def bf_X8_umbrellas_35 : List Nat := []
theorem r_X8_umbrellas_35_0 : zbox [] (fun vs => zFrun (zpost (zAlq al_X8_umbrellas_35)) 1000 t_X8_umbrellas fm_X8_umbrellas_35 bf_X8_umbrellas_35 (0, vs)) = true := by decide +kernel
set_option maxRecDepth 100000 in
theorem x_X8_umbrellas_35 (d : Nat) : zS l G gh (d + 8) (zpost (zAlq al_X8_umbrellas_35)) n_X8_umbrellas (zn 0 p_X8_umbrellas 0) (zwc (0, [.inr (.ref 0), .inl 2147483651, .inl 2147483650], zP q_X8_umbrellas_35) 0) := zentry (tt_X8_umbrellas d) fm_X8_umbrellas_35 bf_X8_umbrellas_35 1000 (by decide +kernel) rfl ⟨Nat.zero_lt_succ _, trivial⟩ (fun f hf => match f, hf with
  | 0, _ => fun vs hv => (zbox_t r_X8_umbrellas_35_0) vs hv
  | f + 1, h => absurd (show f + 1 < 1 from h) (Nat.not_lt.mpr (Nat.le_add_left 1 f)))
noncomputable def gs_X8_umbrellas_35 : zMt := zgq false [] 4 [.inr (.ref 0), .inl 2147483651, .inl 2147483650] q_X8_umbrellas_35 al_X8_umbrellas_35
set_option maxRecDepth 100000 in
theorem cs_X8_umbrellas_35 (d : Nat) : zC l G gh (d + 8) n_X8_umbrellas gs_X8_umbrellas_35 := zgq_ok0 (pcs := p_X8_umbrellas) (by decide) rfl rfl (fun a ha => by simp only [al_X8_umbrellas_35, List.mem_cons, List.not_mem_nil, or_false] at ha; rcases ha with rfl <;> decide +kernel) (fun gh => x_X8_umbrellas_35 d) (by decide +kernel)
def q_X8_umbrellas_36 : List (Nat × Nat) := []
noncomputable def al_X8_umbrellas_36 : zAq := [(some (.inl 2147483647), [])]
noncomputable def fm_X8_umbrellas_36 : List zFm := [(0, [], (fun vs => [.inr (.ref 0), .inl 2147483651, .inl 6442450942]), (fun vs => zP q_X8_umbrellas_36), (fun vs => Nat.sub (Nat.add 0 0) 0))]
def bf_X8_umbrellas_36 : List Nat := []
theorem r_X8_umbrellas_36_0 : zbox [] (fun vs => zFrun (zpost (zAlq al_X8_umbrellas_36)) 1000 t_X8_umbrellas fm_X8_umbrellas_36 bf_X8_umbrellas_36 (0, vs)) = true := by decide +kernel
set_option maxRecDepth 100000 in
theorem x_X8_umbrellas_36 (d : Nat) : zS l G gh (d + 8) (zpost (zAlq al_X8_umbrellas_36)) n_X8_umbrellas (zn 0 p_X8_umbrellas 0) (zwc (0, [.inr (.ref 0), .inl 2147483651, .inl 6442450942], zP q_X8_umbrellas_36) 0) := zentry (tt_X8_umbrellas d) fm_X8_umbrellas_36 bf_X8_umbrellas_36 1000 (by decide +kernel) rfl ⟨Nat.zero_lt_succ _, trivial⟩ (fun f hf => match f, hf with
  | 0, _ => fun vs hv => (zbox_t r_X8_umbrellas_36_0) vs hv
  | f + 1, h => absurd (show f + 1 < 1 from h) (Nat.not_lt.mpr (Nat.le_add_left 1 f)))
noncomputable def gs_X8_umbrellas_36 : zMt := zgq false [] 4 [.inr (.ref 0), .inl 2147483651, .inl 6442450942] q_X8_umbrellas_36 al_X8_umbrellas_36
set_option maxRecDepth 100000 in
theorem cs_X8_umbrellas_36 (d : Nat) : zC l G gh (d + 8) n_X8_umbrellas gs_X8_umbrellas_36 := zgq_ok0 (pcs := p_X8_umbrellas) (by decide) rfl rfl (fun a ha => by simp only [al_X8_umbrellas_36, List.mem_cons, List.not_mem_nil, or_false] at ha; rcases ha with rfl <;> decide +kernel) (fun gh => x_X8_umbrellas_36 d) (by decide +kernel)
def q_X8_umbrellas_37 : List (Nat × Nat) := []
noncomputable def al_X8_umbrellas_37 : zAq := [(some (.inl 2147483647), [])]
noncomputable def fm_X8_umbrellas_37 : List zFm := [(0, [], (fun vs => [.inr (.ref 0), .inl 2147483651, .inl 9223372058329612287]), (fun vs => zP q_X8_umbrellas_37), (fun vs => Nat.sub (Nat.add 0 0) 0))]
def bf_X8_umbrellas_37 : List Nat := []
theorem r_X8_umbrellas_37_0 : zbox [] (fun vs => zFrun (zpost (zAlq al_X8_umbrellas_37)) 1000 t_X8_umbrellas fm_X8_umbrellas_37 bf_X8_umbrellas_37 (0, vs)) = true := by decide +kernel
set_option maxRecDepth 100000 in
theorem x_X8_umbrellas_37 (d : Nat) : zS l G gh (d + 8) (zpost (zAlq al_X8_umbrellas_37)) n_X8_umbrellas (zn 0 p_X8_umbrellas 0) (zwc (0, [.inr (.ref 0), .inl 2147483651, .inl 9223372058329612287], zP q_X8_umbrellas_37) 0) := zentry (tt_X8_umbrellas d) fm_X8_umbrellas_37 bf_X8_umbrellas_37 1000 (by decide +kernel) rfl ⟨Nat.zero_lt_succ _, trivial⟩ (fun f hf => match f, hf with
  | 0, _ => fun vs hv => (zbox_t r_X8_umbrellas_37_0) vs hv
  | f + 1, h => absurd (show f + 1 < 1 from h) (Nat.not_lt.mpr (Nat.le_add_left 1 f)))
noncomputable def gs_X8_umbrellas_37 : zMt := zgq false [] 4 [.inr (.ref 0), .inl 2147483651, .inl 9223372058329612287] q_X8_umbrellas_37 al_X8_umbrellas_37
set_option maxRecDepth 100000 in
theorem cs_X8_umbrellas_37 (d : Nat) : zC l G gh (d + 8) n_X8_umbrellas gs_X8_umbrellas_37 := zgq_ok0 (pcs := p_X8_umbrellas) (by decide) rfl rfl (fun a ha => by simp only [al_X8_umbrellas_37, List.mem_cons, List.not_mem_nil, or_false] at ha; rcases ha with rfl <;> decide +kernel) (fun gh => x_X8_umbrellas_37 d) (by decide +kernel)
def q_X8_umbrellas_38 : List (Nat × Nat) := []
noncomputable def al_X8_umbrellas_38 : zAq := [(some (.inl 2147483647), [])]
noncomputable def fm_X8_umbrellas_38 : List zFm := [(0, [], (fun vs => [.inr (.ref 0), .inl 6442450944, .inl 8589934591]), (fun vs => zP q_X8_umbrellas_38), (fun vs => Nat.sub (Nat.add 0 0) 0))]
def bf_X8_umbrellas_38 : List Nat := []
theorem r_X8_umbrellas_38_0 : zbox [] (fun vs => zFrun (zpost (zAlq al_X8_umbrellas_38)) 1000 t_X8_umbrellas fm_X8_umbrellas_38 bf_X8_umbrellas_38 (0, vs)) = true := by decide +kernel
set_option maxRecDepth 100000 in
theorem x_X8_umbrellas_38 (d : Nat) : zS l G gh (d + 8) (zpost (zAlq al_X8_umbrellas_38)) n_X8_umbrellas (zn 0 p_X8_umbrellas 0) (zwc (0, [.inr (.ref 0), .inl 6442450944, .inl 8589934591], zP q_X8_umbrellas_38) 0) := zentry (tt_X8_umbrellas d) fm_X8_umbrellas_38 bf_X8_umbrellas_38 1000 (by decide +kernel) rfl ⟨Nat.zero_lt_succ _, trivial⟩ (fun f hf => match f, hf with
  | 0, _ => fun vs hv => (zbox_t r_X8_umbrellas_38_0) vs hv
  | f + 1, h => absurd (show f + 1 < 1 from h) (Nat.not_lt.mpr (Nat.le_add_left 1 f)))
noncomputable def gs_X8_umbrellas_38 : zMt := zgq false [] 4 [.inr (.ref 0), .inl 6442450944, .inl 8589934591] q_X8_umbrellas_38 al_X8_umbrellas_38
set_option maxRecDepth 100000 in
theorem cs_X8_umbrellas_38 (d : Nat) : zC l G gh (d + 8) n_X8_umbrellas gs_X8_umbrellas_38 := zgq_ok0 (pcs := p_X8_umbrellas) (by decide) rfl rfl (fun a ha => by simp only [al_X8_umbrellas_38, List.mem_cons, List.not_mem_nil, or_false] at ha; rcases ha with rfl <;> decide +kernel) (fun gh => x_X8_umbrellas_38 d) (by decide +kernel)
def q_X8_umbrellas_39 : List (Nat × Nat) := []
noncomputable def al_X8_umbrellas_39 : zAq := [(some (.inl 2147483647), [])]
noncomputable def fm_X8_umbrellas_39 : List zFm := [(0, [], (fun vs => [.inr (.ref 0), .inl 9223372062624579583, .inl 8589934591]), (fun vs => zP q_X8_umbrellas_39), (fun vs => Nat.sub (Nat.add 0 0) 0))]
def bf_X8_umbrellas_39 : List Nat := []
theorem r_X8_umbrellas_39_0 : zbox [] (fun vs => zFrun (zpost (zAlq al_X8_umbrellas_39)) 1000 t_X8_umbrellas fm_X8_umbrellas_39 bf_X8_umbrellas_39 (0, vs)) = true := by decide +kernel
set_option maxRecDepth 100000 in
theorem x_X8_umbrellas_39 (d : Nat) : zS l G gh (d + 8) (zpost (zAlq al_X8_umbrellas_39)) n_X8_umbrellas (zn 0 p_X8_umbrellas 0) (zwc (0, [.inr (.ref 0), .inl 9223372062624579583, .inl 8589934591], zP q_X8_umbrellas_39) 0) := zentry (tt_X8_umbrellas d) fm_X8_umbrellas_39 bf_X8_umbrellas_39 1000 (by decide +kernel) rfl ⟨Nat.zero_lt_succ _, trivial⟩ (fun f hf => match f, hf with
  | 0, _ => fun vs hv => (zbox_t r_X8_umbrellas_39_0) vs hv
  | f + 1, h => absurd (show f + 1 < 1 from h) (Nat.not_lt.mpr (Nat.le_add_left 1 f)))
noncomputable def gs_X8_umbrellas_39 : zMt := zgq false [] 4 [.inr (.ref 0), .inl 9223372062624579583, .inl 8589934591] q_X8_umbrellas_39 al_X8_umbrellas_39
set_option maxRecDepth 100000 in
theorem cs_X8_umbrellas_39 (d : Nat) : zC l G gh (d + 8) n_X8_umbrellas gs_X8_umbrellas_39 := zgq_ok0 (pcs := p_X8_umbrellas) (by decide) rfl rfl (fun a ha => by simp only [al_X8_umbrellas_39, List.mem_cons, List.not_mem_nil, or_false] at ha; rcases ha with rfl <;> decide +kernel) (fun gh => x_X8_umbrellas_39 d) (by decide +kernel)
noncomputable def gs_X8_umbrellas : zMt := (zor gs_X8_umbrellas_0 (zor gs_X8_umbrellas_1 (zor gs_X8_umbrellas_2 (zor gs_X8_umbrellas_3 (zor gs_X8_umbrellas_4 (zor gs_X8_umbrellas_5 (zor gs_X8_umbrellas_6 (zor gs_X8_umbrellas_7 (zor gs_X8_umbrellas_8 (zor gs_X8_umbrellas_9 (zor gs_X8_umbrellas_10 (zor gs_X8_umbrellas_11 (zor gs_X8_umbrellas_12 (zor gs_X8_umbrellas_13 (zor gs_X8_umbrellas_14 (zor gs_X8_umbrellas_15 (zor gs_X8_umbrellas_16 (zor gs_X8_umbrellas_17 (zor gs_X8_umbrellas_18 (zor gs_X8_umbrellas_19 (zor gs_X8_umbrellas_20 (zor gs_X8_umbrellas_21 (zor gs_X8_umbrellas_22 (zor gs_X8_umbrellas_23 (zor gs_X8_umbrellas_24 (zor gs_X8_umbrellas_25 (zor gs_X8_umbrellas_26 (zor gs_X8_umbrellas_27 (zor gs_X8_umbrellas_28 (zor gs_X8_umbrellas_29 (zor gs_X8_umbrellas_30 (zor gs_X8_umbrellas_31 (zor gs_X8_umbrellas_32 (zor gs_X8_umbrellas_33 (zor gs_X8_umbrellas_34 (zor gs_X8_umbrellas_35 (zor gs_X8_umbrellas_36 (zor gs_X8_umbrellas_37 (zor gs_X8_umbrellas_38 gs_X8_umbrellas_39)))))))))))))))))))))))))))))))))))))))
theorem cs_X8_umbrellas (d : Nat) : zC l G gh (d + 8) n_X8_umbrellas gs_X8_umbrellas := (zor_ok (cs_X8_umbrellas_0 d) (zor_ok (cs_X8_umbrellas_1 d) (zor_ok (cs_X8_umbrellas_2 d) (zor_ok (cs_X8_umbrellas_3 d) (zor_ok (cs_X8_umbrellas_4 d) (zor_ok (cs_X8_umbrellas_5 d) (zor_ok (cs_X8_umbrellas_6 d) (zor_ok (cs_X8_umbrellas_7 d) (zor_ok (cs_X8_umbrellas_8 d) (zor_ok (cs_X8_umbrellas_9 d) (zor_ok (cs_X8_umbrellas_10 d) (zor_ok (cs_X8_umbrellas_11 d) (zor_ok (cs_X8_umbrellas_12 d) (zor_ok (cs_X8_umbrellas_13 d) (zor_ok (cs_X8_umbrellas_14 d) (zor_ok (cs_X8_umbrellas_15 d) (zor_ok (cs_X8_umbrellas_16 d) (zor_ok (cs_X8_umbrellas_17 d) (zor_ok (cs_X8_umbrellas_18 d) (zor_ok (cs_X8_umbrellas_19 d) (zor_ok (cs_X8_umbrellas_20 d) (zor_ok (cs_X8_umbrellas_21 d) (zor_ok (cs_X8_umbrellas_22 d) (zor_ok (cs_X8_umbrellas_23 d) (zor_ok (cs_X8_umbrellas_24 d) (zor_ok (cs_X8_umbrellas_25 d) (zor_ok (cs_X8_umbrellas_26 d) (zor_ok (cs_X8_umbrellas_27 d) (zor_ok (cs_X8_umbrellas_28 d) (zor_ok (cs_X8_umbrellas_29 d) (zor_ok (cs_X8_umbrellas_30 d) (zor_ok (cs_X8_umbrellas_31 d) (zor_ok (cs_X8_umbrellas_32 d) (zor_ok (cs_X8_umbrellas_33 d) (zor_ok (cs_X8_umbrellas_34 d) (zor_ok (cs_X8_umbrellas_35 d) (zor_ok (cs_X8_umbrellas_36 d) (zor_ok (cs_X8_umbrellas_37 d) (zor_ok (cs_X8_umbrellas_38 d) (cs_X8_umbrellas_39 d))))))))))))))))))))))))))))))))))))))))
end
