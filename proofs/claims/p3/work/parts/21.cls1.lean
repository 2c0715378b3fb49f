section
variable {l : Launch} {G : qG} {gh : zGh}
def n_X7_xOf : qMn := (yX7_xOf, cX7_xOf, 1, (some Jvm.ClassFile.FieldType.int), 0, 0)
theorem to_X7_xOf : qTo n_X7_xOf 1 := ⟨g1053, g109, ⟨by decide, by decide, by decide +kernel⟩, by decide⟩
def p_X7_xOf : List Nat := [0]
noncomputable def b_X7_xOf_0 : zBl := fun jp K => oIld 0 <| oInt 2147483657 <| oB2z zidiv <| oIret K
theorem s_X7_xOf_0 (d : Nat) : zPb l G gh (d + 1) n_X7_xOf p_X7_xOf 0 b_X7_xOf_0 := fun K jp hj =>
    z_iload_n (n := 0) (i := 0) (zd (i := .iload_n 0) (n := 1) (by decide +kernel)) rfl <|
    z_bipush (n := 9) (zd (i := .bipush (9)) (n := 2) (by decide +kernel)) (by decide +kernel) <|
    z_idiv (zd (i := .idiv) (n := 1) (by decide +kernel)) <|
    z_iret (zd (i := .ireturn) (n := 1) (by decide +kernel)) rfl
noncomputable def t_X7_xOf : List zBl := [b_X7_xOf_0]
theorem tt_X7_xOf (d : Nat) : zT (zPb l G gh (d + 1) n_X7_xOf p_X7_xOf) t_X7_xOf p_X7_xOf := ⟨s_X7_xOf_0 d, trivial⟩
noncomputable def f_X7_xOf : zMt := zmet 1 t_X7_xOf
theorem c_X7_xOf (d : Nat) : zC l G gh (d + 1) n_X7_xOf f_X7_xOf := zmet_ok (pcs := p_X7_xOf) (by decide) rfl rfl (tt_X7_xOf d)
def n_X7_tallOf : qMn := (yX7_tallOf, cX7_tallOf, 1, (some Jvm.ClassFile.FieldType.int), 0, 0)
theorem to_X7_tallOf : qTo n_X7_tallOf 1 := ⟨g1056, g109, ⟨by decide, by decide, by decide +kernel⟩, by decide⟩
def p_X7_tallOf : List Nat := [0]
noncomputable def b_X7_tallOf_0 : zBl := fun jp K => oIld 0 <| oInt 2147483657 <| oB2z zirem <| oInt 2147483649 <| oB2 zadd <| oIret K
theorem s_X7_tallOf_0 (d : Nat) : zPb l G gh (d + 1) n_X7_tallOf p_X7_tallOf 0 b_X7_tallOf_0 := fun K jp hj =>
    z_iload_n (n := 0) (i := 0) (zd (i := .iload_n 0) (n := 1) (by decide +kernel)) rfl <|
    z_bipush (n := 9) (zd (i := .bipush (9)) (n := 2) (by decide +kernel)) (by decide +kernel) <|
    z_irem (zd (i := .irem) (n := 1) (by decide +kernel)) <|
    z_iconst (n := 1) (zd (i := .iconst (1)) (n := 1) (by decide +kernel)) (by decide +kernel) <|
    z_iadd (zd (i := .iadd) (n := 1) (by decide +kernel)) <|
    z_iret (zd (i := .ireturn) (n := 1) (by decide +kernel)) rfl
noncomputable def t_X7_tallOf : List zBl := [b_X7_tallOf_0]
theorem tt_X7_tallOf (d : Nat) : zT (zPb l G gh (d + 1) n_X7_tallOf p_X7_tallOf) t_X7_tallOf p_X7_tallOf := ⟨s_X7_tallOf_0 d, trivial⟩
noncomputable def f_X7_tallOf : zMt := zmet 1 t_X7_tallOf
theorem c_X7_tallOf (d : Nat) : zC l G gh (d + 1) n_X7_tallOf f_X7_tallOf := zmet_ok (pcs := p_X7_tallOf) (by decide) rfl rfl (tt_X7_tallOf d)
def n_X4_loans : qMn := (yX4_loans, cX4_loans, 6, (some Jvm.ClassFile.FieldType.int), 0, 0)
theorem to_X4_loans : qTo n_X4_loans 0 := ⟨g1095, g107, ⟨by decide, by decide, by decide +kernel⟩, by decide⟩
def p_X4_loans : List Nat := [0, 13, 19, 31, 35, 36, 44]
noncomputable def b_X4_loans_0 : zBl := fun jp K => oInt 2147483648 <| oIst 1 <| oAld 0 <| oGetR 4 5 <| oAst 2 <| oAld 2 <| oAlen <| oIst 3 <| oInt 2147483648 <| oIst 4 <| jp 1
theorem s_X4_loans_0 (d : Nat) : zPb l G gh (d + 1) n_X4_loans p_X4_loans 0 b_X4_loans_0 := fun K jp hj =>
    z_iconst (n := 0) (zd (i := .iconst (0)) (n := 1) (by decide +kernel)) (by decide +kernel) <|
    z_istore_n (n := 1) (i := 1) (zd (i := .istore_n 1) (n := 1) (by decide +kernel)) rfl (by decide +kernel) <|
    z_aload_n (n := 0) (i := 0) (zd (i := .aload_n 0) (n := 1) (by decide +kernel)) rfl <|
    z_getR (ci := 4) (j := 5) (idx := 28) (zd (i := .getfield 28) (n := 3) (by decide +kernel)) (by decide +kernel) (by decide +kernel) rfl g382 <|
    z_astore_n (n := 2) (i := 2) (zd (i := .astore_n 2) (n := 1) (by decide +kernel)) rfl (by decide +kernel) <|
    z_aload_n (n := 2) (i := 2) (zd (i := .aload_n 2) (n := 1) (by decide +kernel)) rfl <|
    z_alen (zd (i := .arraylength) (n := 1) (by decide +kernel)) <|
    z_istore_n (n := 3) (i := 3) (zd (i := .istore_n 3) (n := 1) (by decide +kernel)) rfl (by decide +kernel) <|
    z_iconst (n := 0) (zd (i := .iconst (0)) (n := 1) (by decide +kernel)) (by decide +kernel) <|
    z_istore (i := 4) (zd (i := .istore 4) (n := 2) (by decide +kernel)) (by decide +kernel) <|
    (zj (hj 1) (by decide +kernel))
noncomputable def b_X4_loans_1 : zBl := fun jp K => oNLL 4 3 zgeN zltN zn1_ge zn2_ge zn1_lt zn2_lt (jp 6) (jp 2)
theorem s_X4_loans_1 (d : Nat) : zPb l G gh (d + 1) n_X4_loans p_X4_loans 13 b_X4_loans_1 := fun K jp hj =>
    z_nLL_ge (i := 4) (j := 3) (a1 := 2) (a2 := 1) (off := 28) (tgt := 44) (zLd_w (i := 4) (zd (i := .iload 4) (n := 2) (by decide +kernel))) (zLd_n (n := 3) (i := 3) (zd (i := .iload_n 3) (n := 1) (by decide +kernel)) rfl) (zd (i := .if_icmp .ge (28)) (n := 3) (by decide +kernel)) (by decide +kernel) (zj (hj 6) (by decide +kernel)) (zj (hj 2) (by decide +kernel))
noncomputable def b_X4_loans_2 : zBl := fun jp K => oAld 2 <| oIld 4 <| oXald 10 <| oIst 5 <| oIld 1 <| oNLC 5 2147483648 zeqN zneN zn1_eq zn1_ne (jp 4) (jp 3)
theorem s_X4_loans_2 (d : Nat) : zPb l G gh (d + 1) n_X4_loans p_X4_loans 19 b_X4_loans_2 := fun K jp hj =>
    z_aload_n (n := 2) (i := 2) (zd (i := .aload_n 2) (n := 1) (by decide +kernel)) rfl <|
    z_iload (i := 4) (zd (i := .iload 4) (n := 2) (by decide +kernel)) <|
    z_iald (zd (i := .iaload) (n := 1) (by decide +kernel)) <|
    z_istore (i := 5) (zd (i := .istore 5) (n := 2) (by decide +kernel)) (by decide +kernel) <|
    z_iload_n (n := 1) (i := 1) (zd (i := .iload_n 1) (n := 1) (by decide +kernel)) rfl <|
    z_nL0_eq (i := 5) (a1 := 2) (off := 7) (tgt := 35) (zLd_w (i := 5) (zd (i := .iload 5) (n := 2) (by decide +kernel))) (zd (i := .ifCond .eq (7)) (n := 3) (by decide +kernel)) (by decide +kernel) (zj (hj 4) (by decide +kernel)) (zj (hj 3) (by decide +kernel))
noncomputable def b_X4_loans_3 : zBl := fun jp K => oInt 2147483649 <| jp 5
theorem s_X4_loans_3 (d : Nat) : zPb l G gh (d + 1) n_X4_loans p_X4_loans 31 b_X4_loans_3 := fun K jp hj =>
    z_iconst (n := 1) (zd (i := .iconst (1)) (n := 1) (by decide +kernel)) (by decide +kernel) <|
    z_goto (off := 4) (tgt := 36) (zd (i := .goto (4)) (n := 3) (by decide +kernel)) (by decide +kernel) (zj (hj 5) (by decide +kernel))
noncomputable def b_X4_loans_4 : zBl := fun jp K => oInt 2147483648 <| jp 5
theorem s_X4_loans_4 (d : Nat) : zPb l G gh (d + 1) n_X4_loans p_X4_loans 35 b_X4_loans_4 := fun K jp hj =>
    z_iconst (n := 0) (zd (i := .iconst (0)) (n := 1) (by decide +kernel)) (by decide +kernel) <|
    (zj (hj 5) (by decide +kernel))
noncomputable def b_X4_loans_5 : zBl := fun jp K => oB2 zadd <| oIst 1 <| oInc 4 2147483649 <| jp 1
theorem s_X4_loans_5 (d : Nat) : zPb l G gh (d + 1) n_X4_loans p_X4_loans 36 b_X4_loans_5 := fun K jp hj =>
    z_iadd (zd (i := .iadd) (n := 1) (by decide +kernel)) <|
    z_istore_n (n := 1) (i := 1) (zd (i := .istore_n 1) (n := 1) (by decide +kernel)) rfl (by decide +kernel) <|
    z_iinc (i := 4) (n := 1) (zd (i := .iinc 4 (1)) (n := 3) (by decide +kernel)) (by decide +kernel) (by decide +kernel) <|
    z_goto (off := -28) (tgt := 13) (zd (i := .goto (-28)) (n := 3) (by decide +kernel)) (by decide +kernel) (zj (hj 1) (by decide +kernel))
noncomputable def b_X4_loans_6 : zBl := fun jp K => oIld 1 <| oIret K
theorem s_X4_loans_6 (d : Nat) : zPb l G gh (d + 1) n_X4_loans p_X4_loans 44 b_X4_loans_6 := fun K jp hj =>
    z_iload_n (n := 1) (i := 1) (zd (i := .iload_n 1) (n := 1) (by decide +kernel)) rfl <|
    z_iret (zd (i := .ireturn) (n := 1) (by decide +kernel)) rfl
noncomputable def t_X4_loans : List zBl := [b_X4_loans_0, b_X4_loans_1, b_X4_loans_2, b_X4_loans_3, b_X4_loans_4, b_X4_loans_5, b_X4_loans_6]
theorem tt_X4_loans (d : Nat) : zT (zPb l G gh (d + 1) n_X4_loans p_X4_loans) t_X4_loans p_X4_loans := ⟨s_X4_loans_0 d, s_X4_loans_1 d, s_X4_loans_2 d, s_X4_loans_3 d, s_X4_loans_4 d, s_X4_loans_5 d, s_X4_loans_6 d, trivial⟩
def q_X4_loans_0 : List (Nat × Nat) := [(21, zk22), (26, zk23)]
noncomputable def al_X4_loans_0 : zAq := [(some (.inl 8589934591), [(21, zk22), (26, zk23)])]
noncomputable def fm_X4_loans_0 : List zFm := [(0, [], (fun vs => [.inr (.ref 21)]), (fun vs => zP q_X4_loans_0), (fun vs => Nat.sub (Nat.add 37 0) 0)),
  (1, [(4, 2147483648, 2147483684)], (fun vs => [.inr (.ref 21), .inl 8589934591, .inr (.ref 26), .inl 2147483684, .inl (zn 0 vs 0)]), (fun vs => zP q_X4_loans_0), (fun vs => Nat.sub (Nat.add 2147483684 0) (Nat.add 0 (Nat.mul 1 (zn 0 vs 0)))))]
def bf_X4_loans_0 : List Nat := [0, 2]
theorem r_X4_loans_0_0 : zbox [] (fun vs => zFrun (zpost (zAlq al_X4_loans_0)) 1000 t_X4_loans fm_X4_loans_0 bf_X4_loans_0 (0, vs)) = true := by decide +kernel
theorem r_X4_loans_0_1 : zbox [(4, 2147483648, 2147483684)] (fun vs => zFrun (zpost (zAlq al_X4_loans_0)) 1000 t_X4_loans fm_X4_loans_0 bf_X4_loans_0 (1, vs)) = true := by decide +kernel
set_option maxRecDepth 100000 in
theorem x_X4_loans_0 (d : Nat) : zS l G gh (d + 1) (zpost (zAlq al_X4_loans_0)) n_X4_loans (zn 0 p_X4_loans 0) (zwc (0, [.inr (.ref 21)], zP q_X4_loans_0) 0) := zentry (tt_X4_loans d) fm_X4_loans_0 bf_X4_loans_0 1000 (by decide +kernel) rfl ⟨Nat.zero_lt_succ _, trivial⟩ (fun f hf => match f, hf with
  | 0, _ => fun vs hv => (zbox_t r_X4_loans_0_0) vs hv
  | 1, _ => fun vs hv => (zbox_t r_X4_loans_0_1) vs hv
  | f + 2, h => absurd (show f + 2 < 2 from h) (Nat.not_lt.mpr (Nat.le_add_left 2 f)))
noncomputable def gs_X4_loans_0 : zMt := zgq false [] 6 [.inr (.ref 21)] q_X4_loans_0 al_X4_loans_0
set_option maxRecDepth 100000 in
theorem cs_X4_loans_0 (d : Nat) : zC l G gh (d + 1) n_X4_loans gs_X4_loans_0 := zgq_ok0 (pcs := p_X4_loans) (by decide) rfl rfl (fun a ha => by simp only [al_X4_loans_0, List.mem_cons, List.not_mem_nil, or_false] at ha; rcases ha with rfl <;> decide +kernel) (fun gh => x_X4_loans_0 d) (by decide +kernel)
noncomputable def gs_X4_loans : zMt := gs_X4_loans_0
theorem cs_X4_loans (d : Nat) : zC l G gh (d + 1) n_X4_loans gs_X4_loans := (cs_X4_loans_0 d)
def n_X8_sum : qMn := (yX8_sum, cX8_sum, 6, (some Jvm.ClassFile.FieldType.int), 0, 0)
theorem to_X8_sum : qTo n_X8_sum 1 := ⟨g1098, g97, ⟨by decide, by decide, by decide +kernel⟩, by decide⟩
def p_X8_sum : List Nat := [0, 10, 16, 33]
noncomputable def b_X8_sum_0 : zBl := fun jp K => oInt 2147483648 <| oIst 1 <| oAld 0 <| oAst 2 <| oAld 2 <| oAlen <| oIst 3 <| oInt 2147483648 <| oIst 4 <| jp 1
theorem s_X8_sum_0 (d : Nat) : zPb l G gh (d + 1) n_X8_sum p_X8_sum 0 b_X8_sum_0 := fun K jp hj =>
    z_iconst (n := 0) (zd (i := .iconst (0)) (n := 1) (by decide +kernel)) (by decide +kernel) <|
    z_istore_n (n := 1) (i := 1) (zd (i := .istore_n 1) (n := 1) (by decide +kernel)) rfl (by decide +kernel) <|
    z_aload_n (n := 0) (i := 0) (zd (i := .aload_n 0) (n := 1) (by decide +kernel)) rfl <|
    z_astore_n (n := 2) (i := 2) (zd (i := .astore_n 2) (n := 1) (by decide +kernel)) rfl (by decide +kernel) <|
    z_aload_n (n := 2) (i := 2) (zd (i := .aload_n 2) (n := 1) (by decide +kernel)) rfl <|
    z_alen (zd (i := .arraylength) (n := 1) (by decide +kernel)) <|
    z_istore_n (n := 3) (i := 3) (zd (i := .istore_n 3) (n := 1) (by decide +kernel)) rfl (by decide +kernel) <|
    z_iconst (n := 0) (zd (i := .iconst (0)) (n := 1) (by decide +kernel)) (by decide +kernel) <|
    z_istore (i := 4) (zd (i := .istore 4) (n := 2) (by decide +kernel)) (by decide +kernel) <|
    (zj (hj 1) (by decide +kernel))
noncomputable def b_X8_sum_1 : zBl := fun jp K => oNLL 4 3 zgeN zltN zn1_ge zn2_ge zn1_lt zn2_lt (jp 3) (jp 2)
theorem s_X8_sum_1 (d : Nat) : zPb l G gh (d + 1) n_X8_sum p_X8_sum 10 b_X8_sum_1 := fun K jp hj =>
    z_nLL_ge (i := 4) (j := 3) (a1 := 2) (a2 := 1) (off := 20) (tgt := 33) (zLd_w (i := 4) (zd (i := .iload 4) (n := 2) (by decide +kernel))) (zLd_n (n := 3) (i := 3) (zd (i := .iload_n 3) (n := 1) (by decide +kernel)) rfl) (zd (i := .if_icmp .ge (20)) (n := 3) (by decide +kernel)) (by decide +kernel) (zj (hj 3) (by decide +kernel)) (zj (hj 2) (by decide +kernel))
noncomputable def b_X8_sum_2 : zBl := fun jp K => oAld 2 <| oIld 4 <| oXald 10 <| oIst 5 <| oIld 1 <| oIld 5 <| oB2 zadd <| oIst 1 <| oInc 4 2147483649 <| jp 1
theorem s_X8_sum_2 (d : Nat) : zPb l G gh (d + 1) n_X8_sum p_X8_sum 16 b_X8_sum_2 := fun K jp hj =>
    z_aload_n (n := 2) (i := 2) (zd (i := .aload_n 2) (n := 1) (by decide +kernel)) rfl <|
    z_iload (i := 4) (zd (i := .iload 4) (n := 2) (by decide +kernel)) <|
    z_iald (zd (i := .iaload) (n := 1) (by decide +kernel)) <|
    z_istore (i := 5) (zd (i := .istore 5) (n := 2) (by decide +kernel)) (by decide +kernel) <|
    z_iload_n (n := 1) (i := 1) (zd (i := .iload_n 1) (n := 1) (by decide +kernel)) rfl <|
    z_iload (i := 5) (zd (i := .iload 5) (n := 2) (by decide +kernel)) <|
    z_iadd (zd (i := .iadd) (n := 1) (by decide +kernel)) <|
    z_istore_n (n := 1) (i := 1) (zd (i := .istore_n 1) (n := 1) (by decide +kernel)) rfl (by decide +kernel) <|
    z_iinc (i := 4) (n := 1) (zd (i := .iinc 4 (1)) (n := 3) (by decide +kernel)) (by decide +kernel) (by decide +kernel) <|
    z_goto (off := -20) (tgt := 10) (zd (i := .goto (-20)) (n := 3) (by decide +kernel)) (by decide +kernel) (zj (hj 1) (by decide +kernel))
noncomputable def b_X8_sum_3 : zBl := fun jp K => oIld 1 <| oIret K
theorem s_X8_sum_3 (d : Nat) : zPb l G gh (d + 1) n_X8_sum p_X8_sum 33 b_X8_sum_3 := fun K jp hj =>
    z_iload_n (n := 1) (i := 1) (zd (i := .iload_n 1) (n := 1) (by decide +kernel)) rfl <|
    z_iret (zd (i := .ireturn) (n := 1) (by decide +kernel)) rfl
noncomputable def t_X8_sum : List zBl := [b_X8_sum_0, b_X8_sum_1, b_X8_sum_2, b_X8_sum_3]
theorem tt_X8_sum (d : Nat) : zT (zPb l G gh (d + 1) n_X8_sum p_X8_sum) t_X8_sum p_X8_sum := ⟨s_X8_sum_0 d, s_X8_sum_1 d, s_X8_sum_2 d, s_X8_sum_3 d, trivial⟩
def q_X8_sum_0 : List (Nat × Nat) := [(25, zk10)]
noncomputable def al_X8_sum_0 : zAq := [(some (.inl 8589934591), [(25, zk10)])]
noncomputable def fm_X8_sum_0 : List zFm := [(0, [], (fun vs => [.inr (.ref 25)]), (fun vs => zP q_X8_sum_0), (fun vs => Nat.sub (Nat.add 7 0) 0)),
  (1, [(4, 2147483648, 2147483654)], (fun vs => [.inr (.ref 25), .inl 8589934591, .inr (.ref 25), .inl 2147483654, .inl (zn 0 vs 0)]), (fun vs => zP q_X8_sum_0), (fun vs => Nat.sub (Nat.add 2147483654 0) (Nat.add 0 (Nat.mul 1 (zn 0 vs 0)))))]
def bf_X8_sum_0 : List Nat := [0, 2]
theorem r_X8_sum_0_0 : zbox [] (fun vs => zFrun (zpost (zAlq al_X8_sum_0)) 1000 t_X8_sum fm_X8_sum_0 bf_X8_sum_0 (0, vs)) = true := by decide +kernel
theorem r_X8_sum_0_1 : zbox [(4, 2147483648, 2147483654)] (fun vs => zFrun (zpost (zAlq al_X8_sum_0)) 1000 t_X8_sum fm_X8_sum_0 bf_X8_sum_0 (1, vs)) = true := by decide +kernel
set_option maxRecDepth 100000 in
theorem x_X8_sum_0 (d : Nat) : zS l G gh (d + 1) (zpost (zAlq al_X8_sum_0)) n_X8_sum (zn 0 p_X8_sum 0) (zwc (0, [.inr (.ref 25)], zP q_X8_sum_0) 0) := zentry (tt_X8_sum d) fm_X8_sum_0 bf_X8_sum_0 1000 (by decide +kernel) rfl ⟨Nat.zero_lt_succ _, trivial⟩ (fun f hf => match f, hf with
  | 0, _ => fun vs hv => (zbox_t r_X8_sum_0_0) vs hv
  | 1, _ => fun vs hv => (zbox_t r_X8_sum_0_1) vs hv
  | f + 2, h => absurd (show f + 2 < 2 from h) (Nat.not_lt.mpr (Nat.le_add_left 2 f)))
noncomputable def gs_X8_sum_0 : zMt := zgq false [] 6 [.inr (.ref 25)] q_X8_sum_0 al_X8_sum_0
set_option maxRecDepth 100000 in
theorem cs_X8_sum_0 (d : Nat) : zC l G gh (d + 1) n_X8_sum gs_X8_sum_0 := zgq_ok0 (pcs := p_X8_sum) (by decide) rfl rfl (fun a ha => by simp only [al_X8_sum_0, List.mem_cons, List.not_mem_nil, or_false] at ha; rcases ha with rfl <;> decide +kernel) (fun gh => x_X8_sum_0 d) (by decide +kernel)
def q_X8_sum_1 : List (Nat × Nat) := [(24, zk10)]
noncomputable def al_X8_sum_1 : zAq := [(some (.inl 8589934591), [(24, zk10)])]
noncomputable def fm_X8_sum_1 : List zFm := [(0, [], (fun vs => [.inr (.ref 24)]), (fun vs => zP q_X8_sum_1), (fun vs => Nat.sub (Nat.add 7 0) 0)),
  (1, [(4, 2147483648, 2147483654)], (fun vs => [.inr (.ref 24), .inl 8589934591, .inr (.ref 24), .inl 2147483654, .inl (zn 0 vs 0)]), (fun vs => zP q_X8_sum_1), (fun vs => Nat.sub (Nat.add 2147483654 0) (Nat.add 0 (Nat.mul 1 (zn 0 vs 0)))))]
def bf_X8_sum_1 : List Nat := [0, 2]
theorem r_X8_sum_1_0 : zbox [] (fun vs => zFrun (zpost (zAlq al_X8_sum_1)) 1000 t_X8_sum fm_X8_sum_1 bf_X8_sum_1 (0, vs)) = true := by decide +kernel
theorem r_X8_sum_1_1 : zbox [(4, 2147483648, 2147483654)] (fun vs => zFrun (zpost (zAlq al_X8_sum_1)) 1000 t_X8_sum fm_X8_sum_1 bf_X8_sum_1 (1, vs)) = true := by decide +kernel
set_option maxRecDepth 100000 in
theorem x_X8_sum_1 (d : Nat) : zS l G gh (d + 1) (zpost (zAlq al_X8_sum_1)) n_X8_sum (zn 0 p_X8_sum 0) (zwc (0, [.inr (.ref 24)], zP q_X8_sum_1) 0) := zentry (tt_X8_sum d) fm_X8_sum_1 bf_X8_sum_1 1000 (by decide +kernel) rfl ⟨Nat.zero_lt_succ _, trivial⟩ (fun f hf => match f, hf with
  | 0, _ => fun vs hv => (zbox_t r_X8_sum_1_0) vs hv
  | 1, _ => fun vs hv => (zbox_t r_X8_sum_1_1) vs hv
  | f + 2, h => absurd (show f + 2 < 2 from h) (Nat.not_lt.mpr (Nat.le_add_left 2 f)))
noncomputable def gs_X8_sum_1 : zMt := zgq false [] 6 [.inr (.ref 24)] q_X8_sum_1 al_X8_sum_1
set_option maxRecDepth 100000 in
theorem cs_X8_sum_1 (d : Nat) : zC l G gh (d + 1) n_X8_sum gs_X8_sum_1 := zgq_ok0 (pcs := p_X8_sum) (by decide) rfl rfl (fun a ha => by simp only [al_X8_sum_1, List.mem_cons, List.not_mem_nil, or_false] at ha; rcases ha with rfl <;> decide +kernel) (fun gh => x_X8_sum_1 d) (by decide +kernel)
def q_X8_sum_2 : List (Nat × Nat) := [(23, zk10)]
noncomputable def al_X8_sum_2 : zAq := [(some (.inl 8589934591), [(23, zk10)])]
noncomputable def fm_X8_sum_2 : List zFm := [(0, [], (fun vs => [.inr (.ref 23)]), (fun vs => zP q_X8_sum_2), (fun vs => Nat.sub (Nat.add 7 0) 0)),
  (1, [(4, 2147483648, 2147483654)], (fun vs => [.inr (.ref 23), .inl 8589934591, .inr (.ref 23), .inl 2147483654, .inl (zn 0 vs 0)]), (fun vs => zP q_X8_sum_2), (fun vs => Nat.sub (Nat.add 2147483654 0) (Nat.add 0 (Nat.mul 1 (zn 0 vs 0)))))]
def bf_X8_sum_2 : List Nat := [0, 2]
theorem r_X8_sum_2_0 : zbox [] (fun vs => zFrun (zpost (zAlq al_X8_sum_2)) 1000 t_X8_sum fm_X8_sum_2 bf_X8_sum_2 (0, vs)) = true := by decide +kernel
theorem r_X8_sum_2_1 : zbox [(4, 2147483648, 2147483654)] (fun vs => zFrun (zpost (zAlq al_X8_sum_2)) 1000 t_X8_sum fm_X8_sum_2 bf_X8_sum_2 (1, vs)) = true := by decide +kernel
set_option maxRecDepth 100000 in
theorem x_X8_sum_2 (d : Nat) : zS l G gh (d + 1) (zpost (zAlq al_X8_sum_2)) n_X8_sum (zn 0 p_X8_sum 0) (zwc (0, [.inr (.ref 23)], zP q_X8_sum_2) 0) := zentry (tt_X8_sum d) fm_X8_sum_2 bf_X8_sum_2 1000 (by decide +kernel) rfl ⟨Nat.zero_lt_succ _, trivial⟩ (fun f hf => match f, hf with
  | 0, _ => fun vs hv => (zbox_t r_X8_sum_2_0) vs hv
  | 1, _ => fun vs hv => (zbox_t r_X8_sum_2_1) vs hv
  | f + 2, h => absurd (show f + 2 < 2 from h) (Nat.not_lt.mpr (Nat.le_add_left 2 f)))
noncomputable def gs_X8_sum_2 : zMt := zgq false [] 6 [.inr (.ref 23)] q_X8_sum_2 al_X8_sum_2
set_option maxRecDepth 100000 in
theorem cs_X8_sum_2 (d : Nat) : zC l G gh (d + 1) n_X8_sum gs_X8_sum_2 := zgq_ok0 (pcs := p_X8_sum) (by decide) rfl rfl (fun a ha => by simp only [al_X8_sum_2, List.mem_cons, List.not_mem_nil, or_false] at ha; rcases ha with rfl <;> decide +kernel) (fun gh => x_X8_sum_2 d) (by decide +kernel)
def q_X8_sum_3 : List (Nat × Nat) := [(26, zk23)]
noncomputable def al_X8_sum_3 : zAq := [(some (.inl 8589934591), [(26, zk23)])]
noncomputable def fm_X8_sum_3 : List zFm := [(0, [], (fun vs => [.inr (.ref 26)]), (fun vs => zP q_X8_sum_3), (fun vs => Nat.sub (Nat.add 37 0) 0)),
  (1, [(4, 2147483648, 2147483684)], (fun vs => [.inr (.ref 26), .inl 8589934591, .inr (.ref 26), .inl 2147483684, .inl (zn 0 vs 0)]), (fun vs => zP q_X8_sum_3), (fun vs => Nat.sub (Nat.add 2147483684 0) (Nat.add 0 (Nat.mul 1 (zn 0 vs 0)))))]
def bf_X8_sum_3 : List Nat := [0, 2]
theorem r_X8_sum_3_0 : zbox [] (fun vs => zFrun (zpost (zAlq al_X8_sum_3)) 1000 t_X8_sum fm_X8_sum_3 bf_X8_sum_3 (0, vs)) = true := by decide +kernel
theorem r_X8_sum_3_1 : zbox [(4, 2147483648, 2147483684)] (fun vs => zFrun (zpost (zAlq al_X8_sum_3)) 1000 t_X8_sum fm_X8_sum_3 bf_X8_sum_3 (1, vs)) = true := by decide +kernel
set_option maxRecDepth 100000 in
theorem x_X8_sum_3 (d : Nat) : zS l G gh (d + 1) (zpost (zAlq al_X8_sum_3)) n_X8_sum (zn 0 p_X8_sum 0) (zwc (0, [.inr (.ref 26)], zP q_X8_sum_3) 0) := zentry (tt_X8_sum d) fm_X8_sum_3 bf_X8_sum_3 1000 (by decide +kernel) rfl ⟨Nat.zero_lt_succ _, trivial⟩ (fun f hf => match f, hf with
  | 0, _ => fun vs hv => (zbox_t r_X8_sum_3_0) vs hv
  | 1, _ => fun vs hv => (zbox_t r_X8_sum_3_1) vs hv
  | f + 2, h => absurd (show f + 2 < 2 from h) (Nat.not_lt.mpr (Nat.le_add_left 2 f)))
noncomputable def gs_X8_sum_3 : zMt := zgq false [] 6 [.inr (.ref 26)] q_X8_sum_3 al_X8_sum_3
set_option maxRecDepth 100000 in
theorem cs_X8_sum_3 (d : Nat) : zC l G gh (d + 1) n_X8_sum gs_X8_sum_3 := zgq_ok0 (pcs := p_X8_sum) (by decide) rfl rfl (fun a ha => by simp only [al_X8_sum_3, List.mem_cons, List.not_mem_nil, or_false] at ha; rcases ha with rfl <;> decide +kernel) (fun gh => x_X8_sum_3 d) (by decide +kernel)
noncomputable def gs_X8_sum : zMt := (zor gs_X8_sum_0 (zor gs_X8_sum_1 (zor gs_X8_sum_2 gs_X8_sum_3)))
theorem cs_X8_sum (d : Nat) : zC l G gh (d + 1) n_X8_sum gs_X8_sum := (zor_ok (cs_X8_sum_0 d) (zor_ok (cs_X8_sum_1 d) (zor_ok (cs_X8_sum_2 d) (cs_X8_sum_3 d))))
def n_X8_heldSlots : qMn := (yX8_heldSlots, cX8_heldSlots, 3, (some Jvm.ClassFile.FieldType.int), 0, 0)
theorem to_X8_heldSlots : qTo n_X8_heldSlots 0 := ⟨g1102, g97, ⟨by decide, by decide, by decide +kernel⟩, by decide⟩
def p_X8_heldSlots : List Nat := [0, 4, 9, 19, 23, 24, 32]
noncomputable def b_X8_heldSlots_0 : zBl := fun jp K => oInt 2147483648 <| oIst 1 <| oInt 2147483648 <| oIst 2 <| jp 1
theorem s_X8_heldSlots_0 (d : Nat) : zPb l G gh (d + 1) n_X8_heldSlots p_X8_heldSlots 0 b_X8_heldSlots_0 := fun K jp hj =>
    z_iconst (n := 0) (zd (i := .iconst (0)) (n := 1) (by decide +kernel)) (by decide +kernel) <|
    z_istore_n (n := 1) (i := 1) (zd (i := .istore_n 1) (n := 1) (by decide +kernel)) rfl (by decide +kernel) <|
    z_iconst (n := 0) (zd (i := .iconst (0)) (n := 1) (by decide +kernel)) (by decide +kernel) <|
    z_istore_n (n := 2) (i := 2) (zd (i := .istore_n 2) (n := 1) (by decide +kernel)) rfl (by decide +kernel) <|
    (zj (hj 1) (by decide +kernel))
noncomputable def b_X8_heldSlots_1 : zBl := fun jp K => oNLC 2 2147483651 zgeN zltN zn1_ge zn1_lt (jp 6) (jp 2)
theorem s_X8_heldSlots_1 (d : Nat) : zPb l G gh (d + 1) n_X8_heldSlots p_X8_heldSlots 4 b_X8_heldSlots_1 := fun K jp hj =>
    z_nLC_ge (i := 2) (c0 := 2147483651) (a1 := 1) (a2 := 1) (off := 26) (tgt := 32) (zLd_n (n := 2) (i := 2) (zd (i := .iload_n 2) (n := 1) (by decide +kernel)) rfl) (zCn_c (n := 3) (zd (i := .iconst (3)) (n := 1) (by decide +kernel)) (by decide +kernel)) (zd (i := .if_icmp .ge (26)) (n := 3) (by decide +kernel)) (by decide +kernel) (zj (hj 6) (by decide +kernel)) (zj (hj 2) (by decide +kernel))
noncomputable def b_X8_heldSlots_2 : zBl := fun jp K => oIld 1 <| oAld 0 <| oGetR 8 6 <| oIld 2 <| oXald 12 <| oIf zeq zne (jp 4) (jp 3)
theorem s_X8_heldSlots_2 (d : Nat) : zPb l G gh (d + 1) n_X8_heldSlots p_X8_heldSlots 9 b_X8_heldSlots_2 := fun K jp hj =>
    z_iload_n (n := 1) (i := 1) (zd (i := .iload_n 1) (n := 1) (by decide +kernel)) rfl <|
    z_aload_n (n := 0) (i := 0) (zd (i := .aload_n 0) (n := 1) (by decide +kernel)) rfl <|
    z_getR (ci := 8) (j := 6) (idx := 44) (zd (i := .getfield 44) (n := 3) (by decide +kernel)) (by decide +kernel) (by decide +kernel) rfl g458 <|
    z_iload_n (n := 2) (i := 2) (zd (i := .iload_n 2) (n := 1) (by decide +kernel)) rfl <|
    z_zald (zd (i := .baload) (n := 1) (by decide +kernel)) <|
    z_if_eq (off := 7) (tgt := 23) (zd (i := .ifCond .eq (7)) (n := 3) (by decide +kernel)) (by decide +kernel) (zj (hj 4) (by decide +kernel)) (zj (hj 3) (by decide +kernel))
noncomputable def b_X8_heldSlots_3 : zBl := fun jp K => oInt 2147483649 <| jp 5
theorem s_X8_heldSlots_3 (d : Nat) : zPb l G gh (d + 1) n_X8_heldSlots p_X8_heldSlots 19 b_X8_heldSlots_3 := fun K jp hj =>
    z_iconst (n := 1) (zd (i := .iconst (1)) (n := 1) (by decide +kernel)) (by decide +kernel) <|
    z_goto (off := 4) (tgt := 24) (zd (i := .goto (4)) (n := 3) (by decide +kernel)) (by decide +kernel) (zj (hj 5) (by decide +kernel))
noncomputable def b_X8_heldSlots_4 : zBl := fun jp K => oInt 2147483648 <| jp 5
theorem s_X8_heldSlots_4 (d : Nat) : zPb l G gh (d + 1) n_X8_heldSlots p_X8_heldSlots 23 b_X8_heldSlots_4 := fun K jp hj =>
    z_iconst (n := 0) (zd (i := .iconst (0)) (n := 1) (by decide +kernel)) (by decide +kernel) <|
    (zj (hj 5) (by decide +kernel))
noncomputable def b_X8_heldSlots_5 : zBl := fun jp K => oB2 zadd <| oIst 1 <| oInc 2 2147483649 <| jp 1
theorem s_X8_heldSlots_5 (d : Nat) : zPb l G gh (d + 1) n_X8_heldSlots p_X8_heldSlots 24 b_X8_heldSlots_5 := fun K jp hj =>
    z_iadd (zd (i := .iadd) (n := 1) (by decide +kernel)) <|
    z_istore_n (n := 1) (i := 1) (zd (i := .istore_n 1) (n := 1) (by decide +kernel)) rfl (by decide +kernel) <|
    z_iinc (i := 2) (n := 1) (zd (i := .iinc 2 (1)) (n := 3) (by decide +kernel)) (by decide +kernel) (by decide +kernel) <|
    z_goto (off := -25) (tgt := 4) (zd (i := .goto (-25)) (n := 3) (by decide +kernel)) (by decide +kernel) (zj (hj 1) (by decide +kernel))
noncomputable def b_X8_heldSlots_6 : zBl := fun jp K => oIld 1 <| oIret K
theorem s_X8_heldSlots_6 (d : Nat) : zPb l G gh (d + 1) n_X8_heldSlots p_X8_heldSlots 32 b_X8_heldSlots_6 := fun K jp hj =>
    z_iload_n (n := 1) (i := 1) (zd (i := .iload_n 1) (n := 1) (by decide +kernel)) rfl <|
    z_iret (zd (i := .ireturn) (n := 1) (by decide +kernel)) rfl
noncomputable def t_X8_heldSlots : List zBl := [b_X8_heldSlots_0, b_X8_heldSlots_1, b_X8_heldSlots_2, b_X8_heldSlots_3, b_X8_heldSlots_4, b_X8_heldSlots_5, b_X8_heldSlots_6]
theorem tt_X8_heldSlots (d : Nat) : zT (zPb l G gh (d + 1) n_X8_heldSlots p_X8_heldSlots) t_X8_heldSlots p_X8_heldSlots := ⟨s_X8_heldSlots_0 d, s_X8_heldSlots_1 d, s_X8_heldSlots_2 d, s_X8_heldSlots_3 d, s_X8_heldSlots_4 d, s_X8_heldSlots_5 d, s_X8_heldSlots_6 d, trivial⟩
def q_X8_heldSlots_0 : List (Nat × Nat) := [(0, zk12), (248, zk24)]
noncomputable def al_X8_heldSlots_0 : zAq := [(some (.inl 8589934591), [(0, zk12), (248, zk24)])]
noncomputable def fm_X8_heldSlots_0 : List zFm := [(0, [], (fun vs => [.inr (.ref 0)]), (fun vs => zP q_X8_heldSlots_0), (fun vs => Nat.sub (Nat.add 4 0) 0)),
  (1, [(2, 2147483648, 2147483651)], (fun vs => [.inr (.ref 0), .inl 8589934591, .inl (zn 0 vs 0)]), (fun vs => zP q_X8_heldSlots_0), (fun vs => Nat.sub (Nat.add 2147483651 0) (Nat.add 0 (Nat.mul 1 (zn 0 vs 0)))))]
def bf_X8_heldSlots_0 : List Nat := [0, 2]
theorem r_X8_heldSlots_0_0 : zbox [] (fun vs => zFrun (zpost (zAlq al_X8_heldSlots_0)) 1000 t_X8_heldSlots fm_X8_heldSlots_0 bf_X8_heldSlots_0 (0, vs)) = true := by decide +kernel
theorem r_X8_heldSlots_0_1 : zbox [(2, 2147483648, 2147483651)] (fun vs => zFrun (zpost (zAlq al_X8_heldSlots_0)) 1000 t_X8_heldSlots fm_X8_heldSlots_0 bf_X8_heldSlots_0 (1, vs)) = true := by decide +kernel
set_option maxRecDepth 100000 in
theorem x_X8_heldSlots_0 (d : Nat) : zS l G gh (d + 1) (zpost (zAlq al_X8_heldSlots_0)) n_X8_heldSlots (zn 0 p_X8_heldSlots 0) (zwc (0, [.inr (.ref 0)], zP q_X8_heldSlots_0) 0) := zentry (tt_X8_heldSlots d) fm_X8_heldSlots_0 bf_X8_heldSlots_0 1000 (by decide +kernel) rfl ⟨Nat.zero_lt_succ _, trivial⟩ (fun f hf => match f, hf with
  | 0, _ => fun vs hv => (zbox_t r_X8_heldSlots_0_0) vs hv
  | 1, _ => fun vs hv => (zbox_t r_X8_heldSlots_0_1) vs hv
  | f + 2, h => absurd (show f + 2 < 2 from h) (Nat.not_lt.mpr (Nat.le_add_left 2 f)))
noncomputable def gs_X8_heldSlots_0 : zMt := zgq false [] 3 [.inr (.ref 0)] q_X8_heldSlots_0 al_X8_heldSlots_0
set_option maxRecDepth 100000 in
theorem cs_X8_heldSlots_0 (d : Nat) : zC l G gh (d + 1) n_X8_heldSlots gs_X8_heldSlots_0 := zgq_ok0 (pcs := p_X8_heldSlots) (by decide) rfl rfl (fun a ha => by simp only [al_X8_heldSlots_0, List.mem_cons, List.not_mem_nil, or_false] at ha; rcases ha with rfl <;> decide +kernel) (fun gh => x_X8_heldSlots_0 d) (by decide +kernel)
def q_X8_heldSlots_1 : List (Nat × Nat) := [(0, zk13), (248, zk24)]
noncomputable def al_X8_heldSlots_1 : zAq := [(some (.inl 8589934591), [(0, zk13), (248, zk24)])]
noncomputable def fm_X8_heldSlots_1 : List zFm := [(0, [], (fun vs => [.inr (.ref 0)]), (fun vs => zP q_X8_heldSlots_1), (fun vs => Nat.sub (Nat.add 4 0) 0)),
  (1, [(2, 2147483648, 2147483651)], (fun vs => [.inr (.ref 0), .inl 8589934591, .inl (zn 0 vs 0)]), (fun vs => zP q_X8_heldSlots_1), (fun vs => Nat.sub (Nat.add 2147483651 0) (Nat.add 0 (Nat.mul 1 (zn 0 vs 0)))))]
def bf_X8_heldSlots_1 : List Nat := [0, 2]
theorem r_X8_heldSlots_1_0 : zbox [] (fun vs => zFrun (zpost (zAlq al_X8_heldSlots_1)) 1000 t_X8_heldSlots fm_X8_heldSlots_1 bf_X8_heldSlots_1 (0, vs)) = true := by decide +kernel
theorem r_X8_heldSlots_1_1 : zbox [(2, 2147483648, 2147483651)] (fun vs => zFrun (zpost (zAlq al_X8_heldSlots_1)) 1000 t_X8_heldSlots fm_X8_heldSlots_1 bf_X8_heldSlots_1 (1, vs)) = true := by decide +kernel
set_option maxRecDepth 100000 in
theorem x_X8_heldSlots_1 (d : Nat) : zS l G gh (d + 1) (zpost (zAlq al_X8_heldSlots_1)) n_X8_heldSlots (zn 0 p_X8_heldSlots 0) (zwc (0, [.inr (.ref 0)], zP q_X8_heldSlots_1) 0) := zentry (tt_X8_heldSlots d) fm_X8_heldSlots_1 bf_X8_heldSlots_1 1000 (by decide +kernel) rfl ⟨Nat.zero_lt_succ _, trivial⟩ (fun f hf => match f, hf with
  | 0, _ => fun vs hv => (zbox_t r_X8_heldSlots_1_0) vs hv
  | 1, _ => fun vs hv => (zbox_t r_X8_heldSlots_1_1) vs hv
  | f + 2, h => absurd (show f + 2 < 2 from h) (Nat.not_lt.mpr (Nat.le_add_left 2 f)))
noncomputable def gs_X8_heldSlots_1 : zMt := zgq false [] 3 [.inr (.ref 0)] q_X8_heldSlots_1 al_X8_heldSlots_1
set_option maxRecDepth 100000 in
theorem cs_X8_heldSlots_1 (d : Nat) : zC l G gh (d + 1) n_X8_heldSlots gs_X8_heldSlots_1 := zgq_ok0 (pcs := p_X8_heldSlots) (by decide) rfl rfl (fun a ha => by simp only [al_X8_heldSlots_1, List.mem_cons, List.not_mem_nil, or_false] at ha; rcases ha with rfl <;> decide +kernel) (fun gh => x_X8_heldSlots_1 d) (by decide +kernel)
noncomputable def gs_X8_heldSlots : zMt := (zor gs_X8_heldSlots_0 gs_X8_heldSlots_1)
theorem cs_X8_heldSlots (d : Nat) : zC l G gh (d + 1) n_X8_heldSlots gs_X8_heldSlots := (zor_ok (cs_X8_heldSlots_0 d) (cs_X8_heldSlots_1 d))
def n_X8_feed : qMn := (yX8_feed, cX8_feed, 6, (some Jvm.ClassFile.FieldType.int), 0, 0)
theorem to_X8_feed : qTo n_X8_feed 5 := ⟨g498, g97, ⟨by decide, by decide, by decide +kernel⟩, by decide⟩
def p_X8_feed : List Nat := [0, 12, 14]
noncomputable def b_X8_feed_0 : zBl := fun jp K => oAld 0 <| oGetR 8 0 <| oInt 2147483668 <| oCv 5 1 f_X5_hasRoom <| oIf zne zeq (jp 2) (jp 1)
theorem s_X8_feed_0 (d : Nat) : zPb l G gh (d + 2) n_X8_feed p_X8_feed 0 b_X8_feed_0 := fun K jp hj =>
    z_aload_n (n := 0) (i := 0) (zd (i := .aload_n 0) (n := 1) (by decide +kernel)) rfl <|
    z_getR (ci := 8) (j := 0) (idx := 12) (zd (i := .getfield 12) (n := 3) (by decide +kernel)) (by decide +kernel) (by decide +kernel) rfl g452 <|
    z_bipush (n := 20) (zd (i := .bipush (20)) (n := 2) (by decide +kernel)) (by decide +kernel) <|
    z_callV (idx := 79) (ci := 5) (N := n_X5_hasRoom) (zd (i := .invokevirtual 79) (n := 3) (by decide +kernel)) to_X5_hasRoom g499 g500 g501 (by decide +kernel) rfl rfl rfl (c_X5_hasRoom (l := l) (G := G) (gh := gh) (d)) <|
    z_if_ne (off := 5) (tgt := 14) (zd (i := .ifCond .ne (5)) (n := 3) (by decide +kernel)) (by decide +kernel) (zj (hj 2) (by decide +kernel)) (zj (hj 1) (by decide +kernel))
noncomputable def b_X8_feed_1 : zBl := fun jp K => oInt 2147483647 <| oIret K
theorem s_X8_feed_1 (d : Nat) : zPb l G gh (d + 2) n_X8_feed p_X8_feed 12 b_X8_feed_1 := fun K jp hj =>
    z_iconst (n := -1) (zd (i := .iconst (-1)) (n := 1) (by decide +kernel)) (by decide +kernel) <|
    z_iret (zd (i := .ireturn) (n := 1) (by decide +kernel)) rfl
noncomputable def b_X8_feed_2 : zBl := fun jp K => oAld 0 <| oGetR 8 0 <| oIld 1 <| oCv 5 1 f_X5_putWord <| oAld 0 <| oGetR 8 0 <| oIld 2 <| oCv 5 1 f_X5_putWord <| oAld 0 <| oGetR 8 0 <| oIld 3 <| oCv 5 1 f_X5_putWord <| oAld 0 <| oGetR 8 0 <| oIld 4 <| oCv 5 1 f_X5_putWord <| oAld 0 <| oGetR 8 0 <| oIld 5 <| oCv 5 1 f_X5_putWord <| oAld 0 <| oGetR 8 0 <| oGetI 5 1 <| oIret K
theorem s_X8_feed_2 (d : Nat) : zPb l G gh (d + 2) n_X8_feed p_X8_feed 14 b_X8_feed_2 := fun K jp hj =>
    z_aload_n (n := 0) (i := 0) (zd (i := .aload_n 0) (n := 1) (by decide +kernel)) rfl <|
    z_getR (ci := 8) (j := 0) (idx := 12) (zd (i := .getfield 12) (n := 3) (by decide +kernel)) (by decide +kernel) (by decide +kernel) rfl g452 <|
    z_iload_n (n := 1) (i := 1) (zd (i := .iload_n 1) (n := 1) (by decide +kernel)) rfl <|
    z_callV (idx := 83) (ci := 5) (N := n_X5_putWord) (zd (i := .invokevirtual 83) (n := 3) (by decide +kernel)) to_X5_putWord g503 g504 g505 (by decide +kernel) rfl rfl rfl (c_X5_putWord (l := l) (G := G) (gh := gh) (d)) <|
    z_aload_n (n := 0) (i := 0) (zd (i := .aload_n 0) (n := 1) (by decide +kernel)) rfl <|
    z_getR (ci := 8) (j := 0) (idx := 12) (zd (i := .getfield 12) (n := 3) (by decide +kernel)) (by decide +kernel) (by decide +kernel) rfl g452 <|
    z_iload_n (n := 2) (i := 2) (zd (i := .iload_n 2) (n := 1) (by decide +kernel)) rfl <|
    z_callV (idx := 83) (ci := 5) (N := n_X5_putWord) (zd (i := .invokevirtual 83) (n := 3) (by decide +kernel)) to_X5_putWord g503 g504 g505 (by decide +kernel) rfl rfl rfl (c_X5_putWord (l := l) (G := G) (gh := gh) (d)) <|
    z_aload_n (n := 0) (i := 0) (zd (i := .aload_n 0) (n := 1) (by decide +kernel)) rfl <|
    z_getR (ci := 8) (j := 0) (idx := 12) (zd (i := .getfield 12) (n := 3) (by decide +kernel)) (by decide +kernel) (by decide +kernel) rfl g452 <|
    z_iload_n (n := 3) (i := 3) (zd (i := .iload_n 3) (n := 1) (by decide +kernel)) rfl <|
    z_callV (idx := 83) (ci := 5) (N := n_X5_putWord) (zd (i := .invokevirtual 83) (n := 3) (by decide +kernel)) to_X5_putWord g503 g504 g505 (by decide +kernel) rfl rfl rfl (c_X5_putWord (l := l) (G := G) (gh := gh) (d)) <|
    z_aload_n (n := 0) (i := 0) (zd (i := .aload_n 0) (n := 1) (by decide +kernel)) rfl <|
    z_getR (ci := 8) (j := 0) (idx := 12) (zd (i := .getfield 12) (n := 3) (by decide +kernel)) (by decide +kernel) (by decide +kernel) rfl g452 <|
    z_iload (i := 4) (zd (i := .iload 4) (n := 2) (by decide +kernel)) <|
    z_callV (idx := 83) (ci := 5) (N := n_X5_putWord) (zd (i := .invokevirtual 83) (n := 3) (by decide +kernel)) to_X5_putWord g503 g504 g505 (by decide +kernel) rfl rfl rfl (c_X5_putWord (l := l) (G := G) (gh := gh) (d)) <|
    z_aload_n (n := 0) (i := 0) (zd (i := .aload_n 0) (n := 1) (by decide +kernel)) rfl <|
    z_getR (ci := 8) (j := 0) (idx := 12) (zd (i := .getfield 12) (n := 3) (by decide +kernel)) (by decide +kernel) (by decide +kernel) rfl g452 <|
    z_iload (i := 5) (zd (i := .iload 5) (n := 2) (by decide +kernel)) <|
    z_callV (idx := 83) (ci := 5) (N := n_X5_putWord) (zd (i := .invokevirtual 83) (n := 3) (by decide +kernel)) to_X5_putWord g503 g504 g505 (by decide +kernel) rfl rfl rfl (c_X5_putWord (l := l) (G := G) (gh := gh) (d)) <|
    z_aload_n (n := 0) (i := 0) (zd (i := .aload_n 0) (n := 1) (by decide +kernel)) rfl <|
    z_getR (ci := 8) (j := 0) (idx := 12) (zd (i := .getfield 12) (n := 3) (by decide +kernel)) (by decide +kernel) (by decide +kernel) rfl g452 <|
    z_getI (ci := 5) (j := 1) (idx := 87) (zd (i := .getfield 87) (n := 3) (by decide +kernel)) (by decide +kernel) (by decide +kernel) rfl g131 <|
    z_iret (zd (i := .ireturn) (n := 1) (by decide +kernel)) rfl
noncomputable def t_X8_feed : List zBl := [b_X8_feed_0, b_X8_feed_1, b_X8_feed_2]
theorem tt_X8_feed (d : Nat) : zT (zPb l G gh (d + 2) n_X8_feed p_X8_feed) t_X8_feed p_X8_feed := ⟨s_X8_feed_0 d, s_X8_feed_1 d, s_X8_feed_2 d, trivial⟩
def q_X8_feed_0 : List (Nat × Nat) := [(0, zk12), (1, zk25), (2, zk26)]
noncomputable def al_X8_feed_0 : zAq := [(some (.inl 9223372039002261456), [(0, zk12), (1, zk27), (2, zk28)])]
noncomputable def fm_X8_feed_0 : List zFm := [(0, [], (fun vs => [.inr (.ref 0), .inl 8589934591, .inl 8589934591, .inl 8589934591, .inl 8589934591, .inl 8589934591]), (fun vs => zP q_X8_feed_0), (fun vs => Nat.sub (Nat.add 0 0) 0))]
def bf_X8_feed_0 : List Nat := []
theorem r_X8_feed_0_0 : zbox [] (fun vs => zFrun (zpost (zAlq al_X8_feed_0)) 1000 t_X8_feed fm_X8_feed_0 bf_X8_feed_0 (0, vs)) = true := by decide +kernel
set_option maxRecDepth 100000 in
theorem x_X8_feed_0 (d : Nat) : zS l G gh (d + 2) (zpost (zAlq al_X8_feed_0)) n_X8_feed (zn 0 p_X8_feed 0) (zwc (0, [.inr (.ref 0), .inl 8589934591, .inl 8589934591, .inl 8589934591, .inl 8589934591, .inl 8589934591], zP q_X8_feed_0) 0) := zentry (tt_X8_feed d) fm_X8_feed_0 bf_X8_feed_0 1000 (by decide +kernel) rfl ⟨Nat.zero_lt_succ _, trivial⟩ (fun f hf => match f, hf with
  | 0, _ => fun vs hv => (zbox_t r_X8_feed_0_0) vs hv
  | f + 1, h => absurd (show f + 1 < 1 from h) (Nat.not_lt.mpr (Nat.le_add_left 1 f)))
noncomputable def gs_X8_feed_0 : zMt := zgq false [] 6 [.inr (.ref 0), .inl 8589934591, .inl 8589934591, .inl 8589934591, .inl 8589934591, .inl 8589934591] q_X8_feed_0 al_X8_feed_0
set_option maxRecDepth 100000 in
theorem cs_X8_feed_0 (d : Nat) : zC l G gh (d + 2) n_X8_feed gs_X8_feed_0 := zgq_ok0 (pcs := p_X8_feed) (by decide) rfl rfl (fun a ha => by simp only [al_X8_feed_0, List.mem_cons, List.not_mem_nil, or_false] at ha; rcases ha with rfl <;> decide +kernel) (fun gh => x_X8_feed_0 d) (by decide +kernel)
def q_X8_feed_1 : List (Nat × Nat) := [(0, zk13), (1, zk25), (2, zk26)]
noncomputable def al_X8_feed_1 : zAq := [(some (.inl 9223372039002261456), [(0, zk13), (1, zk27), (2, zk28)])]
noncomputable def fm_X8_feed_1 : List zFm := [(0, [], (fun vs => [.inr (.ref 0), .inl 8589934591, .inl 8589934591, .inl 8589934591, .inl 8589934591, .inl 8589934591]), (fun vs => zP q_X8_feed_1), (fun vs => Nat.sub (Nat.add 0 0) 0))]
def bf_X8_feed_1 : List Nat := []
theorem r_X8_feed_1_0 : zbox [] (fun vs => zFrun (zpost (zAlq al_X8_feed_1)) 1000 t_X8_feed fm_X8_feed_1 bf_X8_feed_1 (0, vs)) = true := by decide +kernel
set_option maxRecDepth 100000 in
theorem x_X8_feed_1 (d : Nat) : zS l G gh (d + 2) (zpost (zAlq al_X8_feed_1)) n_X8_feed (zn 0 p_X8_feed 0) (zwc (0, [.inr (.ref 0), .inl 8589934591, .inl 8589934591, .inl 8589934591, .inl 8589934591, .inl 8589934591], zP q_X8_feed_1) 0) := zentry (tt_X8_feed d) fm_X8_feed_1 bf_X8_feed_1 1000 (by decide +kernel) rfl ⟨Nat.zero_lt_succ _, trivial⟩ (fun f hf => match f, hf with
  | 0, _ => fun vs hv => (zbox_t r_X8_feed_1_0) vs hv
  | f + 1, h => absurd (show f + 1 < 1 from h) (Nat.not_lt.mpr (Nat.le_add_left 1 f)))
noncomputable def gs_X8_feed_1 : zMt := zgq false [] 6 [.inr (.ref 0), .inl 8589934591, .inl 8589934591, .inl 8589934591, .inl 8589934591, .inl 8589934591] q_X8_feed_1 al_X8_feed_1
set_option maxRecDepth 100000 in
theorem cs_X8_feed_1 (d : Nat) : zC l G gh (d + 2) n_X8_feed gs_X8_feed_1 := zgq_ok0 (pcs := p_X8_feed) (by decide) rfl rfl (fun a ha => by simp only [al_X8_feed_1, List.mem_cons, List.not_mem_nil, or_false] at ha; rcases ha with rfl <;> decide +kernel) (fun gh => x_X8_feed_1 d) (by decide +kernel)
noncomputable def gs_X8_feed : zMt := (zor gs_X8_feed_0 gs_X8_feed_1)
theorem cs_X8_feed (d : Nat) : zC l G gh (d + 2) n_X8_feed gs_X8_feed := (zor_ok (cs_X8_feed_0 d) (cs_X8_feed_1 d))
def n_X8_back : qMn := (yX8_back, cX8_back, 2, (some Jvm.ClassFile.FieldType.int), 0, 0)
theorem to_X8_back : qTo n_X8_back 1 := ⟨g510, g97, ⟨by decide, by decide, by decide +kernel⟩, by decide⟩
def p_X8_back : List Nat := [0, 11, 21, 22]
noncomputable def b_X8_back_0 : zBl := fun jp K => oAld 0 <| oGetR 8 0 <| oIld 1 <| oCv 5 1 f_X5_drop <| oIf zeq zne (jp 2) (jp 1)
theorem s_X8_back_0 (d : Nat) : zPb l G gh (d + 2) n_X8_back p_X8_back 0 b_X8_back_0 := fun K jp hj =>
    z_aload_n (n := 0) (i := 0) (zd (i := .aload_n 0) (n := 1) (by decide +kernel)) rfl <|
    z_getR (ci := 8) (j := 0) (idx := 12) (zd (i := .getfield 12) (n := 3) (by decide +kernel)) (by decide +kernel) (by decide +kernel) rfl g452 <|
    z_iload_n (n := 1) (i := 1) (zd (i := .iload_n 1) (n := 1) (by decide +kernel)) rfl <|
    z_callV (idx := 90) (ci := 5) (N := n_X5_drop) (zd (i := .invokevirtual 90) (n := 3) (by decide +kernel)) to_X5_drop g511 g512 g513 (by decide +kernel) rfl rfl rfl (c_X5_drop (l := l) (G := G) (gh := gh) (d)) <|
    z_if_eq (off := 13) (tgt := 21) (zd (i := .ifCond .eq (13)) (n := 3) (by decide +kernel)) (by decide +kernel) (zj (hj 2) (by decide +kernel)) (zj (hj 1) (by decide +kernel))
noncomputable def b_X8_back_1 : zBl := fun jp K => oAld 0 <| oGetR 8 0 <| oGetI 5 1 <| jp 3
theorem s_X8_back_1 (d : Nat) : zPb l G gh (d + 2) n_X8_back p_X8_back 11 b_X8_back_1 := fun K jp hj =>
    z_aload_n (n := 0) (i := 0) (zd (i := .aload_n 0) (n := 1) (by decide +kernel)) rfl <|
    z_getR (ci := 8) (j := 0) (idx := 12) (zd (i := .getfield 12) (n := 3) (by decide +kernel)) (by decide +kernel) (by decide +kernel) rfl g452 <|
    z_getI (ci := 5) (j := 1) (idx := 87) (zd (i := .getfield 87) (n := 3) (by decide +kernel)) (by decide +kernel) (by decide +kernel) rfl g131 <|
    z_goto (off := 4) (tgt := 22) (zd (i := .goto (4)) (n := 3) (by decide +kernel)) (by decide +kernel) (zj (hj 3) (by decide +kernel))
noncomputable def b_X8_back_2 : zBl := fun jp K => oInt 2147483647 <| jp 3
theorem s_X8_back_2 (d : Nat) : zPb l G gh (d + 2) n_X8_back p_X8_back 21 b_X8_back_2 := fun K jp hj =>
    z_iconst (n := -1) (zd (i := .iconst (-1)) (n := 1) (by decide +kernel)) (by decide +kernel) <|
    (zj (hj 3) (by decide +kernel))
noncomputable def b_X8_back_3 : zBl := fun jp K => oIret K
theorem s_X8_back_3 (d : Nat) : zPb l G gh (d + 2) n_X8_back p_X8_back 22 b_X8_back_3 := fun K jp hj =>
    z_iret (zd (i := .ireturn) (n := 1) (by decide +kernel)) rfl
noncomputable def t_X8_back : List zBl := [b_X8_back_0, b_X8_back_1, b_X8_back_2, b_X8_back_3]
theorem tt_X8_back (d : Nat) : zT (zPb l G gh (d + 2) n_X8_back p_X8_back) t_X8_back p_X8_back := ⟨s_X8_back_0 d, s_X8_back_1 d, s_X8_back_2 d, s_X8_back_3 d, trivial⟩
def q_X8_back_0 : List (Nat × Nat) := [(0, zk12), (1, zk25)]
noncomputable def al_X8_back_0 : zAq := [(some (.inl 9223372039002261456), [(0, zk12), (1, zk27)])]
noncomputable def fm_X8_back_0 : List zFm := [(0, [], (fun vs => [.inr (.ref 0), .inl 8589934591]), (fun vs => zP q_X8_back_0), (fun vs => Nat.sub (Nat.add 0 0) 0))]
def bf_X8_back_0 : List Nat := []
theorem r_X8_back_0_0 : zbox [] (fun vs => zFrun (zpost (zAlq al_X8_back_0)) 1000 t_X8_back fm_X8_back_0 bf_X8_back_0 (0, vs)) = true := by decide +kernel
set_option maxRecDepth 100000 in
theorem x_X8_back_0 (d : Nat) : zS l G gh (d + 2) (zpost (zAlq al_X8_back_0)) n_X8_back (zn 0 p_X8_back 0) (zwc (0, [.inr (.ref 0), .inl 8589934591], zP q_X8_back_0) 0) := zentry (tt_X8_back d) fm_X8_back_0 bf_X8_back_0 1000 (by decide +kernel) rfl ⟨Nat.zero_lt_succ _, trivial⟩ (fun f hf => match f, hf with
  | 0, _ => fun vs hv => (zbox_t r_X8_back_0_0) vs hv
  | f + 1, h => absurd (show f + 1 < 1 from h) (Nat.not_lt.mpr (Nat.le_add_left 1 f)))
noncomputable def gs_X8_back_0 : zMt := zgq false [] 2 [.inr (.ref 0), .inl 8589934591] q_X8_back_0 al_X8_back_0
set_option maxRecDepth 100000 in
theorem cs_X8_back_0 (d : Nat) : zC l G gh (d + 2) n_X8_back gs_X8_back_0 := zgq_ok0 (pcs := p_X8_back) (by decide) rfl rfl (fun a ha => by simp only [al_X8_back_0, List.mem_cons, List.not_mem_nil, or_false] at ha; rcases ha with rfl <;> decide +kernel) (fun gh => x_X8_back_0 d) (by decide +kernel)
def q_X8_back_1 : List (Nat × Nat) := [(0, zk13), (1, zk25)]
noncomputable def al_X8_back_1 : zAq := [(some (.inl 9223372039002261456), [(0, zk13), (1, zk27)])]
noncomputable def fm_X8_back_1 : List zFm := [(0, [], (fun vs => [.inr (.ref 0), .inl 8589934591]), (fun vs => zP q_X8_back_1), (fun vs => Nat.sub (Nat.add 0 0) 0))]
def bf_X8_back_1 : List Nat := []
theorem r_X8_back_1_0 : zbox [] (fun vs => zFrun (zpost (zAlq al_X8_back_1)) 1000 t_X8_back fm_X8_back_1 bf_X8_back_1 (0, vs)) = true := by decide +kernel
set_option maxRecDepth 100000 in
theorem x_X8_back_1 (d : Nat) : zS l G gh (d + 2) (zpost (zAlq al_X8_back_1)) n_X8_back (zn 0 p_X8_back 0) (zwc (0, [.inr (.ref 0), .inl 8589934591], zP q_X8_back_1) 0) := zentry (tt_X8_back d) fm_X8_back_1 bf_X8_back_1 1000 (by decide +kernel) rfl ⟨Nat.zero_lt_succ _, trivial⟩ (fun f hf => match f, hf with
  | 0, _ => fun vs hv => (zbox_t r_X8_back_1_0) vs hv
  | f + 1, h => absurd (show f + 1 < 1 from h) (Nat.not_lt.mpr (Nat.le_add_left 1 f)))
noncomputable def gs_X8_back_1 : zMt := zgq false [] 2 [.inr (.ref 0), .inl 8589934591] q_X8_back_1 al_X8_back_1
set_option maxRecDepth 100000 in
theorem cs_X8_back_1 (d : Nat) : zC l G gh (d + 2) n_X8_back gs_X8_back_1 := zgq_ok0 (pcs := p_X8_back) (by decide) rfl rfl (fun a ha => by simp only [al_X8_back_1, List.mem_cons, List.not_mem_nil, or_false] at ha; rcases ha with rfl <;> decide +kernel) (fun gh => x_X8_back_1 d) (by decide +kernel)
noncomputable def gs_X8_back : zMt := (zor gs_X8_back_0 gs_X8_back_1)
theorem cs_X8_back (d : Nat) : zC l G gh (d + 2) n_X8_back gs_X8_back := (zor_ok (cs_X8_back_0 d) (cs_X8_back_1 d))
def n_X2_openWithVar : qMn := (yX2_openWithVar, cX2_openWithVar, 3, none, 0, 0)
theorem to_X2_openWithVar : qTo n_X2_openWithVar 2 := ⟨g267, g106, ⟨by decide, by decide, by decide +kernel⟩, by decide⟩
def p_X2_openWithVar : List Nat := [0]
noncomputable def b_X2_openWithVar_0 : zBl := fun jp K => oAld 0 <| oIld 1 <| oCv 2 1 f_X2_open <| oAld 0 <| oInt 2147483649 <| oIld 2 <| oCv 2 2 f_X2_emit <| oPop <| oAld 0 <| oInt 2147483655 <| oInt 2147483648 <| oCv 2 2 f_X2_emit <| oPop <| oVret K
theorem s_X2_openWithVar_0 (d : Nat) : zPb l G gh (d + 2) n_X2_openWithVar p_X2_openWithVar 0 b_X2_openWithVar_0 := fun K jp hj =>
    z_aload_n (n := 0) (i := 0) (zd (i := .aload_n 0) (n := 1) (by decide +kernel)) rfl <|
    z_iload_n (n := 1) (i := 1) (zd (i := .iload_n 1) (n := 1) (by decide +kernel)) rfl <|
    z_callV (idx := 35) (ci := 2) (N := n_X2_open) (zd (i := .invokevirtual 35) (n := 3) (by decide +kernel)) to_X2_open g268 g269 g270 (by decide +kernel) rfl rfl rfl (c_X2_open (l := l) (G := G) (gh := gh) (d)) <|
    z_aload_n (n := 0) (i := 0) (zd (i := .aload_n 0) (n := 1) (by decide +kernel)) rfl <|
    z_iconst (n := 1) (zd (i := .iconst (1)) (n := 1) (by decide +kernel)) (by decide +kernel) <|
    z_iload_n (n := 2) (i := 2) (zd (i := .iload_n 2) (n := 1) (by decide +kernel)) rfl <|
    z_callV (idx := 39) (ci := 2) (N := n_X2_emit) (zd (i := .invokevirtual 39) (n := 3) (by decide +kernel)) to_X2_emit g272 g273 g274 (by decide +kernel) rfl rfl rfl (c_X2_emit (l := l) (G := G) (gh := gh) (d)) <|
    z_pop (zd (i := .pop) (n := 1) (by decide +kernel)) <|
    z_aload_n (n := 0) (i := 0) (zd (i := .aload_n 0) (n := 1) (by decide +kernel)) rfl <|
    z_bipush (n := 7) (zd (i := .bipush (7)) (n := 2) (by decide +kernel)) (by decide +kernel) <|
    z_iconst (n := 0) (zd (i := .iconst (0)) (n := 1) (by decide +kernel)) (by decide +kernel) <|
    z_callV (idx := 39) (ci := 2) (N := n_X2_emit) (zd (i := .invokevirtual 39) (n := 3) (by decide +kernel)) to_X2_emit g272 g273 g274 (by decide +kernel) rfl rfl rfl (c_X2_emit (l := l) (G := G) (gh := gh) (d)) <|
    z_pop (zd (i := .pop) (n := 1) (by decide +kernel)) <|
    z_vret (zd (i := .return_) (n := 1) (by decide +kernel)) rfl
noncomputable def t_X2_openWithVar : List zBl := [b_X2_openWithVar_0]
theorem tt_X2_openWithVar (d : Nat) : zT (zPb l G gh (d + 2) n_X2_openWithVar p_X2_openWithVar) t_X2_openWithVar p_X2_openWithVar := ⟨s_X2_openWithVar_0 d, trivial⟩
noncomputable def f_X2_openWithVar : zMt := zmet 3 t_X2_openWithVar
theorem c_X2_openWithVar (d : Nat) : zC l G gh (d + 2) n_X2_openWithVar f_X2_openWithVar := zmet_ok (pcs := p_X2_openWithVar) (by decide) rfl rfl (tt_X2_openWithVar d)
def n_X6_skipBlanks : qMn := (yX6_skipBlanks, cX6_skipBlanks, 2, none, 0, 0)
theorem to_X6_skipBlanks : qTo n_X6_skipBlanks 1 := ⟨g531, g100, ⟨by decide, by decide, by decide +kernel⟩, by decide⟩
def p_X6_skipBlanks : List Nat := [0, 11, 25, 38]
noncomputable def b_X6_skipBlanks_0 : zBl := fun jp K => oNFF 0 6 4 1 5 1 zgeN zltN zn1_ge zn1_lt (jp 3) (jp 1)
theorem s_X6_skipBlanks_0 (d : Nat) : zPb l G gh (d + 2) n_X6_skipBlanks p_X6_skipBlanks 0 b_X6_skipBlanks_0 := fun K jp hj =>
    z_nFF_ge (r := 0) (ci := 6) (j := 4) (a1 := 4) (r2 := 1) (ci2 := 5) (j2 := 1) (a2 := 4) (off := 30) (tgt := 38) (zFd_n (n := 0) (r := 0) (ci := 6) (j := 4) (idx := 25) (zd (i := .aload_n 0) (n := 1) (by decide +kernel)) rfl (zd (i := .getfield 25) (n := 3) (by decide +kernel)) (by decide +kernel) (by decide +kernel) rfl g211) (by decide +kernel) rfl (zFd_n (n := 1) (r := 1) (ci := 5) (j := 1) (idx := 76) (zd (i := .aload_n 1) (n := 1) (by decide +kernel)) rfl (zd (i := .getfield 76) (n := 3) (by decide +kernel)) (by decide +kernel) (by decide +kernel) rfl g132) (by decide +kernel) rfl (zd (i := .if_icmp .ge (30)) (n := 3) (by decide +kernel)) (by decide +kernel) (zj (hj 3) (by decide +kernel)) (zj (hj 1) (by decide +kernel))
noncomputable def b_X6_skipBlanks_1 : zBl := fun jp K => oAld 1 <| oAld 0 <| oGetI 6 4 <| oCv 5 1 f_X5_byteAt <| oCs 1 f_X6_isBlank <| oIf zeq zne (jp 3) (jp 2)
theorem s_X6_skipBlanks_1 (d : Nat) : zPb l G gh (d + 2) n_X6_skipBlanks p_X6_skipBlanks 11 b_X6_skipBlanks_1 := fun K jp hj =>
    z_aload_n (n := 1) (i := 1) (zd (i := .aload_n 1) (n := 1) (by decide +kernel)) rfl <|
    z_aload_n (n := 0) (i := 0) (zd (i := .aload_n 0) (n := 1) (by decide +kernel)) rfl <|
    z_getI (ci := 6) (j := 4) (idx := 25) (zd (i := .getfield 25) (n := 3) (by decide +kernel)) (by decide +kernel) (by decide +kernel) rfl g211 <|
    z_callV (idx := 51) (ci := 5) (N := n_X5_byteAt) (zd (i := .invokevirtual 51) (n := 3) (by decide +kernel)) to_X5_byteAt g532 g533 g534 (by decide +kernel) rfl rfl rfl (c_X5_byteAt (l := l) (G := G) (gh := gh) (d)) <|
    z_callS (idx := 79) (N := n_X6_isBlank) (zd (i := .invokestatic 79) (n := 3) (by decide +kernel)) to_X6_isBlank g536 g537 rfl rfl (c_X6_isBlank (l := l) (G := G) (gh := gh) (d)) <|
    z_if_eq (off := 16) (tgt := 38) (zd (i := .ifCond .eq (16)) (n := 3) (by decide +kernel)) (by decide +kernel) (zj (hj 3) (by decide +kernel)) (zj (hj 2) (by decide +kernel))
noncomputable def b_X6_skipBlanks_2 : zBl := fun jp K => oAld 0 <| oDup <| oGetI 6 4 <| oInt 2147483649 <| oB2 zadd <| oPutI 6 4 <| jp 0
theorem s_X6_skipBlanks_2 (d : Nat) : zPb l G gh (d + 2) n_X6_skipBlanks p_X6_skipBlanks 25 b_X6_skipBlanks_2 := fun K jp hj =>
    z_aload_n (n := 0) (i := 0) (zd (i := .aload_n 0) (n := 1) (by decide +kernel)) rfl <|
    z_dup (zd (i := .dup) (n := 1) (by decide +kernel)) <|
    z_getI (ci := 6) (j := 4) (idx := 25) (zd (i := .getfield 25) (n := 3) (by decide +kernel)) (by decide +kernel) (by decide +kernel) rfl g211 <|
    z_iconst (n := 1) (zd (i := .iconst (1)) (n := 1) (by decide +kernel)) (by decide +kernel) <|
    z_iadd (zd (i := .iadd) (n := 1) (by decide +kernel)) <|
    z_putI (ci := 6) (j := 4) (idx := 25) (zd (i := .putfield 25) (n := 3) (by decide +kernel)) (by decide +kernel) (by decide +kernel) rfl g211 (Or.inl rfl) <|
    z_goto (off := -35) (tgt := 0) (zd (i := .goto (-35)) (n := 3) (by decide +kernel)) (by decide +kernel) (zj (hj 0) (by decide +kernel))
noncomputable def b_X6_skipBlanks_3 : zBl := fun jp K => oVret K
theorem s_X6_skipBlanks_3 (d : Nat) : zPb l G gh (d + 2) n_X6_skipBlanks p_X6_skipBlanks 38 b_X6_skipBlanks_3 := fun K jp hj =>
    z_vret (zd (i := .return_) (n := 1) (by decide +kernel)) rfl
noncomputable def t_X6_skipBlanks : List zBl := [b_X6_skipBlanks_0, b_X6_skipBlanks_1, b_X6_skipBlanks_2, b_X6_skipBlanks_3]
theorem tt_X6_skipBlanks (d : Nat) : zT (zPb l G gh (d + 2) n_X6_skipBlanks p_X6_skipBlanks) t_X6_skipBlanks p_X6_skipBlanks := ⟨s_X6_skipBlanks_0 d, s_X6_skipBlanks_1 d, s_X6_skipBlanks_2 d, s_X6_skipBlanks_3 d, trivial⟩
def q_X6_skipBlanks_0 : List (Nat × Nat) := [(1, zk25), (2, zk26), (4, zk0)]
noncomputable def al_X6_skipBlanks_0 : zAq := [(none, [(1, zk25), (2, zk26), (4, zk29)])]
def mq_X6_skipBlanks_0_1 : List (Nat × Nat) := [(1, zk25), (2, zk26), (4, zk29)]
noncomputable def fm_X6_skipBlanks_0 : List zFm := [(0, [], (fun vs => [.inr (.ref 4), .inr (.ref 1)]), (fun vs => zP q_X6_skipBlanks_0), (fun vs => Nat.sub (Nat.add 2000 0) 0)),
  (0, [(1000404, 2147483649, 2147485648)], (fun vs => [.inr (.ref 4), .inr (.ref 1)]), (fun vs => zfset (zP mq_X6_skipBlanks_0_1) 4 4 (zmkc (zn 0 vs 0) 2147485648)), (fun vs => Nat.sub (Nat.add 2147485648 0) (Nat.add 0 (Nat.mul 1 (zn 0 vs 0)))))]
def bf_X6_skipBlanks_0 : List Nat := [2]
theorem r_X6_skipBlanks_0_0 : zbox [] (fun vs => zFrun (zpost (zAlq al_X6_skipBlanks_0)) 1000 t_X6_skipBlanks fm_X6_skipBlanks_0 bf_X6_skipBlanks_0 (0, vs)) = true := by decide +kernel
theorem r_X6_skipBlanks_0_1 : zbox [(1000404, 2147483649, 2147485648)] (fun vs => zFrun (zpost (zAlq al_X6_skipBlanks_0)) 1000 t_X6_skipBlanks fm_X6_skipBlanks_0 bf_X6_skipBlanks_0 (1, vs)) = true := by decide +kernel
set_option maxRecDepth 100000 in
theorem x_X6_skipBlanks_0 (d : Nat) : zS l G gh (d + 2) (zpost (zAlq al_X6_skipBlanks_0)) n_X6_skipBlanks (zn 0 p_X6_skipBlanks 0) (zwc (0, [.inr (.ref 4), .inr (.ref 1)], zP q_X6_skipBlanks_0) 0) := zentry (tt_X6_skipBlanks d) fm_X6_skipBlanks_0 bf_X6_skipBlanks_0 1000 (by decide +kernel) rfl ⟨Nat.zero_lt_succ _, trivial⟩ (fun f hf => match f, hf with
  | 0, _ => fun vs hv => (zbox_t r_X6_skipBlanks_0_0) vs hv
  | 1, _ => fun vs hv => (zbox_t r_X6_skipBlanks_0_1) vs hv
  | f + 2, h => absurd (show f + 2 < 2 from h) (Nat.not_lt.mpr (Nat.le_add_left 2 f)))
noncomputable def gs_X6_skipBlanks_0 : zMt := zgq false [] 2 [.inr (.ref 4), .inr (.ref 1)] q_X6_skipBlanks_0 al_X6_skipBlanks_0
set_option maxRecDepth 100000 in
theorem cs_X6_skipBlanks_0 (d : Nat) : zC l G gh (d + 2) n_X6_skipBlanks gs_X6_skipBlanks_0 := zgq_ok0 (pcs := p_X6_skipBlanks) (by decide) rfl rfl (fun a ha => by simp only [al_X6_skipBlanks_0, List.mem_cons, List.not_mem_nil, or_false] at ha; rcases ha with rfl <;> decide +kernel) (fun gh => x_X6_skipBlanks_0 d) (by decide +kernel)
noncomputable def gs_X6_skipBlanks : zMt := gs_X6_skipBlanks_0
theorem cs_X6_skipBlanks (d : Nat) : zC l G gh (d + 2) n_X6_skipBlanks gs_X6_skipBlanks := (cs_X6_skipBlanks_0 d)
def n_X6_scanLetters : qMn := (yX6_scanLetters, cX6_scanLetters, 6, none, 0, 0)
theorem to_X6_scanLetters : qTo n_X6_scanLetters 2 := ⟨g545, g100, ⟨by decide, by decide, by decide +kernel⟩, by decide⟩
def p_X6_scanLetters : List Nat := [0, 8, 19, 33, 61, 85, 89, 95]
noncomputable def b_X6_scanLetters_0 : zBl := fun jp K => oAld 0 <| oGetI 6 4 <| oIst 3 <| oLng 0 <| oLst 4 <| jp 1
theorem s_X6_scanLetters_0 (d : Nat) : zPb l G gh (d + 2) n_X6_scanLetters p_X6_scanLetters 0 b_X6_scanLetters_0 := fun K jp hj =>
    z_aload_n (n := 0) (i := 0) (zd (i := .aload_n 0) (n := 1) (by decide +kernel)) rfl <|
    z_getI (ci := 6) (j := 4) (idx := 25) (zd (i := .getfield 25) (n := 3) (by decide +kernel)) (by decide +kernel) (by decide +kernel) rfl g211 <|
    z_istore_n (n := 3) (i := 3) (zd (i := .istore_n 3) (n := 1) (by decide +kernel)) rfl (by decide +kernel) <|
    z_lconst (n := 0) (zd (i := .lconst 0) (n := 1) (by decide +kernel)) rfl <|
    z_lstore (i := 4) (zd (i := .lstore 4) (n := 2) (by decide +kernel)) (by decide +kernel) <|
    (zj (hj 1) (by decide +kernel))
noncomputable def b_X6_scanLetters_1 : zBl := fun jp K => oNFF 0 6 4 1 5 1 zgeN zltN zn1_ge zn1_lt (jp 4) (jp 2)
theorem s_X6_scanLetters_1 (d : Nat) : zPb l G gh (d + 2) n_X6_scanLetters p_X6_scanLetters 8 b_X6_scanLetters_1 := fun K jp hj =>
    z_nFF_ge (r := 0) (ci := 6) (j := 4) (a1 := 4) (r2 := 1) (ci2 := 5) (j2 := 1) (a2 := 4) (off := 45) (tgt := 61) (zFd_n (n := 0) (r := 0) (ci := 6) (j := 4) (idx := 25) (zd (i := .aload_n 0) (n := 1) (by decide +kernel)) rfl (zd (i := .getfield 25) (n := 3) (by decide +kernel)) (by decide +kernel) (by decide +kernel) rfl g211) (by decide +kernel) rfl (zFd_n (n := 1) (r := 1) (ci := 5) (j := 1) (idx := 76) (zd (i := .aload_n 1) (n := 1) (by decide +kernel)) rfl (zd (i := .getfield 76) (n := 3) (by decide +kernel)) (by decide +kernel) (by decide +kernel) rfl g132) (by decide +kernel) rfl (zd (i := .if_icmp .ge (45)) (n := 3) (by decide +kernel)) (by decide +kernel) (zj (hj 4) (by decide +kernel)) (zj (hj 2) (by decide +kernel))
noncomputable def b_X6_scanLetters_2 : zBl := fun jp K => oAld 1 <| oAld 0 <| oGetI 6 4 <| oCv 5 1 f_X5_byteAt <| oCs 1 f_X6_isLetter <| oIf zeq zne (jp 4) (jp 3)
theorem s_X6_scanLetters_2 (d : Nat) : zPb l G gh (d + 2) n_X6_scanLetters p_X6_scanLetters 19 b_X6_scanLetters_2 := fun K jp hj =>
    z_aload_n (n := 1) (i := 1) (zd (i := .aload_n 1) (n := 1) (by decide +kernel)) rfl <|
    z_aload_n (n := 0) (i := 0) (zd (i := .aload_n 0) (n := 1) (by decide +kernel)) rfl <|
    z_getI (ci := 6) (j := 4) (idx := 25) (zd (i := .getfield 25) (n := 3) (by decide +kernel)) (by decide +kernel) (by decide +kernel) rfl g211 <|
    z_callV (idx := 51) (ci := 5) (N := n_X5_byteAt) (zd (i := .invokevirtual 51) (n := 3) (by decide +kernel)) to_X5_byteAt g532 g533 g534 (by decide +kernel) rfl rfl rfl (c_X5_byteAt (l := l) (G := G) (gh := gh) (d)) <|
    z_callS (idx := 57) (N := n_X6_isLetter) (zd (i := .invokestatic 57) (n := 3) (by decide +kernel)) to_X6_isLetter g539 g540 rfl rfl (c_X6_isLetter (l := l) (G := G) (gh := gh) (d)) <|
    z_if_eq (off := 31) (tgt := 61) (zd (i := .ifCond .eq (31)) (n := 3) (by decide +kernel)) (by decide +kernel) (zj (hj 4) (by decide +kernel)) (zj (hj 3) (by decide +kernel))
noncomputable def b_X6_scanLetters_3 : zBl := fun jp K => oLld 4 <| oAld 1 <| oAld 0 <| oGetI 6 4 <| oCv 5 1 f_X5_byteAt <| oCs 2 f_X6_withLetter <| oLst 4 <| oAld 0 <| oDup <| oGetI 6 4 <| oInt 2147483649 <| oB2 zadd <| oPutI 6 4 <| jp 1
theorem s_X6_scanLetters_3 (d : Nat) : zPb l G gh (d + 2) n_X6_scanLetters p_X6_scanLetters 33 b_X6_scanLetters_3 := fun K jp hj =>
    z_lload (i := 4) (zd (i := .lload 4) (n := 2) (by decide +kernel)) <|
    z_aload_n (n := 1) (i := 1) (zd (i := .aload_n 1) (n := 1) (by decide +kernel)) rfl <|
    z_aload_n (n := 0) (i := 0) (zd (i := .aload_n 0) (n := 1) (by decide +kernel)) rfl <|
    z_getI (ci := 6) (j := 4) (idx := 25) (zd (i := .getfield 25) (n := 3) (by decide +kernel)) (by decide +kernel) (by decide +kernel) rfl g211 <|
    z_callV (idx := 51) (ci := 5) (N := n_X5_byteAt) (zd (i := .invokevirtual 51) (n := 3) (by decide +kernel)) to_X5_byteAt g532 g533 g534 (by decide +kernel) rfl rfl rfl (c_X5_byteAt (l := l) (G := G) (gh := gh) (d)) <|
    z_callS (idx := 41) (N := n_X6_withLetter) (zd (i := .invokestatic 41) (n := 3) (by decide +kernel)) to_X6_withLetter g200 g201 rfl rfl (c_X6_withLetter (l := l) (G := G) (gh := gh) (d)) <|
    z_lstore (i := 4) (zd (i := .lstore 4) (n := 2) (by decide +kernel)) (by decide +kernel) <|
    z_aload_n (n := 0) (i := 0) (zd (i := .aload_n 0) (n := 1) (by decide +kernel)) rfl <|
    z_dup (zd (i := .dup) (n := 1) (by decide +kernel)) <|
    z_getI (ci := 6) (j := 4) (idx := 25) (zd (i := .getfield 25) (n := 3) (by decide +kernel)) (by decide +kernel) (by decide +kernel) rfl g211 <|
    z_iconst (n := 1) (zd (i := .iconst (1)) (n := 1) (by decide +kernel)) (by decide +kernel) <|
    z_iadd (zd (i := .iadd) (n := 1) (by decide +kernel)) <|
    z_putI (ci := 6) (j := 4) (idx := 25) (zd (i := .putfield 25) (n := 3) (by decide +kernel)) (by decide +kernel) (by decide +kernel) rfl g211 (Or.inl rfl) <|
    z_goto (off := -50) (tgt := 8) (zd (i := .goto (-50)) (n := 3) (by decide +kernel)) (by decide +kernel) (zj (hj 1) (by decide +kernel))
noncomputable def b_X6_scanLetters_4 : zBl := fun jp K => oAld 0 <| oGetR 6 3 <| oIld 2 <| oLld 4 <| oLast <| oAld 0 <| oGetR 6 1 <| oIld 2 <| oAld 0 <| oGetI 6 4 <| oIld 3 <| oB2 zsub <| oInt 2147483656 <| oIc zle zgt (jp 6) (jp 5)
theorem s_X6_scanLetters_4 (d : Nat) : zPb l G gh (d + 2) n_X6_scanLetters p_X6_scanLetters 61 b_X6_scanLetters_4 := fun K jp hj =>
    z_aload_n (n := 0) (i := 0) (zd (i := .aload_n 0) (n := 1) (by decide +kernel)) rfl <|
    z_getR (ci := 6) (j := 3) (idx := 22) (zd (i := .getfield 22) (n := 3) (by decide +kernel)) (by decide +kernel) (by decide +kernel) rfl g209 <|
    z_iload_n (n := 2) (i := 2) (zd (i := .iload_n 2) (n := 1) (by decide +kernel)) rfl <|
    z_lload (i := 4) (zd (i := .lload 4) (n := 2) (by decide +kernel)) <|
    z_last (zd (i := .lastore) (n := 1) (by decide +kernel)) <|
    z_aload_n (n := 0) (i := 0) (zd (i := .aload_n 0) (n := 1) (by decide +kernel)) rfl <|
    z_getR (ci := 6) (j := 1) (idx := 15) (zd (i := .getfield 15) (n := 3) (by decide +kernel)) (by decide +kernel) (by decide +kernel) rfl g205 <|
    z_iload_n (n := 2) (i := 2) (zd (i := .iload_n 2) (n := 1) (by decide +kernel)) rfl <|
    z_aload_n (n := 0) (i := 0) (zd (i := .aload_n 0) (n := 1) (by decide +kernel)) rfl <|
    z_getI (ci := 6) (j := 4) (idx := 25) (zd (i := .getfield 25) (n := 3) (by decide +kernel)) (by decide +kernel) (by decide +kernel) rfl g211 <|
    z_iload_n (n := 3) (i := 3) (zd (i := .iload_n 3) (n := 1) (by decide +kernel)) rfl <|
    z_isub (zd (i := .isub) (n := 1) (by decide +kernel)) <|
    z_bipush (n := 8) (zd (i := .bipush (8)) (n := 2) (by decide +kernel)) (by decide +kernel) <|
    z_icmp_le (off := 7) (tgt := 89) (zd (i := .if_icmp .le (7)) (n := 3) (by decide +kernel)) (by decide +kernel) (zj (hj 6) (by decide +kernel)) (zj (hj 5) (by decide +kernel))
noncomputable def b_X6_scanLetters_5 : zBl := fun jp K => oInt 2147483649 <| jp 7
theorem s_X6_scanLetters_5 (d : Nat) : zPb l G gh (d + 2) n_X6_scanLetters p_X6_scanLetters 85 b_X6_scanLetters_5 := fun K jp hj =>
    z_iconst (n := 1) (zd (i := .iconst (1)) (n := 1) (by decide +kernel)) (by decide +kernel) <|
    z_goto (off := 9) (tgt := 95) (zd (i := .goto (9)) (n := 3) (by decide +kernel)) (by decide +kernel) (zj (hj 7) (by decide +kernel))
noncomputable def b_X6_scanLetters_6 : zBl := fun jp K => oAld 0 <| oLld 4 <| oCv 6 1 gs_X6_kindOf <| jp 7
theorem s_X6_scanLetters_6 (d : Nat) : zPb l G gh (d + 2) n_X6_scanLetters p_X6_scanLetters 89 b_X6_scanLetters_6 := fun K jp hj =>
    z_aload_n (n := 0) (i := 0) (zd (i := .aload_n 0) (n := 1) (by decide +kernel)) rfl <|
    z_lload (i := 4) (zd (i := .lload 4) (n := 2) (by decide +kernel)) <|
    z_callV (idx := 82) (ci := 6) (N := n_X6_kindOf) (zd (i := .invokevirtual 82) (n := 3) (by decide +kernel)) to_X6_kindOf g546 g548 g3 (by decide +kernel) rfl rfl rfl (cs_X6_kindOf (l := l) (G := G) (gh := gh) (d)) <|
    (zj (hj 7) (by decide +kernel))
noncomputable def b_X6_scanLetters_7 : zBl := fun jp K => oXast 10 zid <| oVret K
theorem s_X6_scanLetters_7 (d : Nat) : zPb l G gh (d + 2) n_X6_scanLetters p_X6_scanLetters 95 b_X6_scanLetters_7 := fun K jp hj =>
    z_iast (zd (i := .iastore) (n := 1) (by decide +kernel)) <|
    z_vret (zd (i := .return_) (n := 1) (by decide +kernel)) rfl
noncomputable def t_X6_scanLetters : List zBl := [b_X6_scanLetters_0, b_X6_scanLetters_1, b_X6_scanLetters_2, b_X6_scanLetters_3, b_X6_scanLetters_4, b_X6_scanLetters_5, b_X6_scanLetters_6, b_X6_scanLetters_7]
theorem tt_X6_scanLetters (d : Nat) : zT (zPb l G gh (d + 2) n_X6_scanLetters p_X6_scanLetters) t_X6_scanLetters p_X6_scanLetters := ⟨s_X6_scanLetters_0 d, s_X6_scanLetters_1 d, s_X6_scanLetters_2 d, s_X6_scanLetters_3 d, s_X6_scanLetters_4 d, s_X6_scanLetters_5 d, s_X6_scanLetters_6 d, s_X6_scanLetters_7 d, trivial⟩
def q_X6_scanLetters_0 : List (Nat × Nat) := [(1, zk25), (2, zk26), (4, zk0), (5, 131827), (6, zk2), (8, 143923)]
noncomputable def al_X6_scanLetters_0 : zAq := [(none, [(1, zk25), (2, zk26), (4, zk29), (5, 131827), (6, zk30), (8, 12851)])]
def mq_X6_scanLetters_0_1 : List (Nat × Nat) := [(1, zk25), (2, zk26), (4, zk29), (5, 131827), (6, zk2), (8, 143923)]
noncomputable def fm_X6_scanLetters_0 : List zFm := [(0, [], (fun vs => [.inr (.ref 4), .inr (.ref 1), .inl 9223372043297227152]), (fun vs => zP q_X6_scanLetters_0), (fun vs => Nat.sub (Nat.add 2001 0) 0)),
  (1, [(1000404, 2147483648, 2147485648)], (fun vs => [.inr (.ref 4), .inr (.ref 1), .inl 9223372043297227152, .inl 9223372043297228752, .inr (.double 0)]), (fun vs => zfset (zP mq_X6_scanLetters_0_1) 4 4 (zmkc (zn 0 vs 0) 2147485648)), (fun vs => Nat.sub (Nat.add 2147485648 0) (Nat.add 0 (Nat.mul 1 (zn 0 vs 0)))))]
def bf_X6_scanLetters_0 : List Nat := [0, 2]
theorem r_X6_scanLetters_0_0 : zbox [] (fun vs => zFrun (zpost (zAlq al_X6_scanLetters_0)) 1000 t_X6_scanLetters fm_X6_scanLetters_0 bf_X6_scanLetters_0 (0, vs)) = true := by decide +kernel
theorem r_X6_scanLetters_0_1_0 : zbox [(1000404, 2147483648, 2147484630)] (fun vs => zFrun (zpost (zAlq al_X6_scanLetters_0)) 1000 t_X6_scanLetters fm_X6_scanLetters_0 bf_X6_scanLetters_0 (1, vs)) = true := by decide +kernel
theorem r_X6_scanLetters_0_1_1 : zbox [(1000404, 2147484631, 2147485613)] (fun vs => zFrun (zpost (zAlq al_X6_scanLetters_0)) 1000 t_X6_scanLetters fm_X6_scanLetters_0 bf_X6_scanLetters_0 (1, vs)) = true := by decide +kernel
theorem r_X6_scanLetters_0_1_2 : zbox [(1000404, 2147485614, 2147485648)] (fun vs => zFrun (zpost (zAlq al_X6_scanLetters_0)) 1000 t_X6_scanLetters fm_X6_scanLetters_0 bf_X6_scanLetters_0 (1, vs)) = true := by decide +kernel
set_option maxRecDepth 100000 in
theorem x_X6_scanLetters_0 (d : Nat) : zS l G gh (d + 2) (zpost (zAlq al_X6_scanLetters_0)) n_X6_scanLetters (zn 0 p_X6_scanLetters 0) (zwc (0, [.inr (.ref 4), .inr (.ref 1), .inl 9223372043297227152], zP q_X6_scanLetters_0) 0) := zentry (tt_X6_scanLetters d) fm_X6_scanLetters_0 bf_X6_scanLetters_0 1000 (by decide +kernel) rfl ⟨Nat.zero_lt_succ _, trivial⟩ (fun f hf => match f, hf with
  | 0, _ => fun vs hv => (zbox_t r_X6_scanLetters_0_0) vs hv
  | 1, _ => fun vs hv => (zbox_t2 (zbox_t r_X6_scanLetters_0_1_0) (zbox_t2 (zbox_t r_X6_scanLetters_0_1_1) (zbox_t r_X6_scanLetters_0_1_2))) vs hv
  | f + 2, h => absurd (show f + 2 < 2 from h) (Nat.not_lt.mpr (Nat.le_add_left 2 f)))
noncomputable def gs_X6_scanLetters_0 : zMt := zgq false [] 6 [.inr (.ref 4), .inr (.ref 1), .inl 9223372043297227152] q_X6_scanLetters_0 al_X6_scanLetters_0
set_option maxRecDepth 100000 in
theorem cs_X6_scanLetters_0 (d : Nat) : zC l G gh (d + 2) n_X6_scanLetters gs_X6_scanLetters_0 := zgq_ok0 (pcs := p_X6_scanLetters) (by decide) rfl rfl (fun a ha => by simp only [al_X6_scanLetters_0, List.mem_cons, List.not_mem_nil, or_false] at ha; rcases ha with rfl <;> decide +kernel) (fun gh => x_X6_scanLetters_0 d) (by decide +kernel)
noncomputable def gs_X6_scanLetters : zMt := gs_X6_scanLetters_0
theorem cs_X6_scanLetters (d : Nat) : zC l G gh (d + 2) n_X6_scanLetters gs_X6_scanLetters := (cs_X6_scanLetters_0 d)
def n_X6_scanDigits : qMn := (yX6_scanDigits, cX6_scanDigits, 6, none, 0, 0)
theorem to_X6_scanDigits : qTo n_X6_scanDigits 2 := ⟨g556, g100, ⟨by decide, by decide, by decide +kernel⟩, by decide⟩
def p_X6_scanDigits : List Nat := [0, 8, 19, 33, 67, 90, 94, 95]
noncomputable def b_X6_scanDigits_0 : zBl := fun jp K => oAld 0 <| oGetI 6 4 <| oIst 3 <| oLng 0 <| oLst 4 <| jp 1
theorem s_X6_scanDigits_0 (d : Nat) : zPb l G gh (d + 2) n_X6_scanDigits p_X6_scanDigits 0 b_X6_scanDigits_0 := fun K jp hj =>
    z_aload_n (n := 0) (i := 0) (zd (i := .aload_n 0) (n := 1) (by decide +kernel)) rfl <|
    z_getI (ci := 6) (j := 4) (idx := 25) (zd (i := .getfield 25) (n := 3) (by decide +kernel)) (by decide +kernel) (by decide +kernel) rfl g211 <|
    z_istore_n (n := 3) (i := 3) (zd (i := .istore_n 3) (n := 1) (by decide +kernel)) rfl (by decide +kernel) <|
    z_lconst (n := 0) (zd (i := .lconst 0) (n := 1) (by decide +kernel)) rfl <|
    z_lstore (i := 4) (zd (i := .lstore 4) (n := 2) (by decide +kernel)) (by decide +kernel) <|
    (zj (hj 1) (by decide +kernel))
noncomputable def b_X6_scanDigits_1 : zBl := fun jp K => oNFF 0 6 4 1 5 1 zgeN zltN zn1_ge zn1_lt (jp 4) (jp 2)
theorem s_X6_scanDigits_1 (d : Nat) : zPb l G gh (d + 2) n_X6_scanDigits p_X6_scanDigits 8 b_X6_scanDigits_1 := fun K jp hj =>
    z_nFF_ge (r := 0) (ci := 6) (j := 4) (a1 := 4) (r2 := 1) (ci2 := 5) (j2 := 1) (a2 := 4) (off := 51) (tgt := 67) (zFd_n (n := 0) (r := 0) (ci := 6) (j := 4) (idx := 25) (zd (i := .aload_n 0) (n := 1) (by decide +kernel)) rfl (zd (i := .getfield 25) (n := 3) (by decide +kernel)) (by decide +kernel) (by decide +kernel) rfl g211) (by decide +kernel) rfl (zFd_n (n := 1) (r := 1) (ci := 5) (j := 1) (idx := 76) (zd (i := .aload_n 1) (n := 1) (by decide +kernel)) rfl (zd (i := .getfield 76) (n := 3) (by decide +kernel)) (by decide +kernel) (by decide +kernel) rfl g132) (by decide +kernel) rfl (zd (i := .if_icmp .ge (51)) (n := 3) (by decide +kernel)) (by decide +kernel) (zj (hj 4) (by decide +kernel)) (zj (hj 2) (by decide +kernel))
noncomputable def b_X6_scanDigits_2 : zBl := fun jp K => oAld 1 <| oAld 0 <| oGetI 6 4 <| oCv 5 1 f_X5_byteAt <| oCs 1 f_X6_isDigit <| oIf zeq zne (jp 4) (jp 3)
theorem s_X6_scanDigits_2 (d : Nat) : zPb l G gh (d + 2) n_X6_scanDigits p_X6_scanDigits 19 b_X6_scanDigits_2 := fun K jp hj =>
    z_aload_n (n := 1) (i := 1) (zd (i := .aload_n 1) (n := 1) (by decide +kernel)) rfl <|
    z_aload_n (n := 0) (i := 0) (zd (i := .aload_n 0) (n := 1) (by decide +kernel)) rfl <|
    z_getI (ci := 6) (j := 4) (idx := 25) (zd (i := .getfield 25) (n := 3) (by decide +kernel)) (by decide +kernel) (by decide +kernel) rfl g211 <|
    z_callV (idx := 51) (ci := 5) (N := n_X5_byteAt) (zd (i := .invokevirtual 51) (n := 3) (by decide +kernel)) to_X5_byteAt g532 g533 g534 (by decide +kernel) rfl rfl rfl (c_X5_byteAt (l := l) (G := G) (gh := gh) (d)) <|
    z_callS (idx := 65) (N := n_X6_isDigit) (zd (i := .invokestatic 65) (n := 3) (by decide +kernel)) to_X6_isDigit g550 g551 rfl rfl (c_X6_isDigit (l := l) (G := G) (gh := gh) (d)) <|
    z_if_eq (off := 37) (tgt := 67) (zd (i := .ifCond .eq (37)) (n := 3) (by decide +kernel)) (by decide +kernel) (zj (hj 4) (by decide +kernel)) (zj (hj 3) (by decide +kernel))
noncomputable def b_X6_scanDigits_3 : zBl := fun jp K => oLld 4 <| oLng 10 <| oJ2 Int64.mul <| oAld 1 <| oAld 0 <| oGetI 6 4 <| oCv 5 1 f_X5_byteAt <| oInt 2147483696 <| oB2 zsub <| oI2l <| oJ2 Int64.add <| oLst 4 <| oAld 0 <| oDup <| oGetI 6 4 <| oInt 2147483649 <| oB2 zadd <| oPutI 6 4 <| jp 1
theorem s_X6_scanDigits_3 (d : Nat) : zPb l G gh (d + 2) n_X6_scanDigits p_X6_scanDigits 33 b_X6_scanDigits_3 := fun K jp hj =>
    z_lload (i := 4) (zd (i := .lload 4) (n := 2) (by decide +kernel)) <|
    z_ldc2 (n := 86) (zd (i := .ldc2_w 86) (n := 3) (by decide +kernel)) g557 <|
    z_lmul (zd (i := .lmul) (n := 1) (by decide +kernel)) <|
    z_aload_n (n := 1) (i := 1) (zd (i := .aload_n 1) (n := 1) (by decide +kernel)) rfl <|
    z_aload_n (n := 0) (i := 0) (zd (i := .aload_n 0) (n := 1) (by decide +kernel)) rfl <|
    z_getI (ci := 6) (j := 4) (idx := 25) (zd (i := .getfield 25) (n := 3) (by decide +kernel)) (by decide +kernel) (by decide +kernel) rfl g211 <|
    z_callV (idx := 51) (ci := 5) (N := n_X5_byteAt) (zd (i := .invokevirtual 51) (n := 3) (by decide +kernel)) to_X5_byteAt g532 g533 g534 (by decide +kernel) rfl rfl rfl (c_X5_byteAt (l := l) (G := G) (gh := gh) (d)) <|
    z_bipush (n := 48) (zd (i := .bipush (48)) (n := 2) (by decide +kernel)) (by decide +kernel) <|
    z_isub (zd (i := .isub) (n := 1) (by decide +kernel)) <|
    z_i2l (zd (i := .i2l) (n := 1) (by decide +kernel)) <|
    z_ladd (zd (i := .ladd) (n := 1) (by decide +kernel)) <|
    z_lstore (i := 4) (zd (i := .lstore 4) (n := 2) (by decide +kernel)) (by decide +kernel) <|
    z_aload_n (n := 0) (i := 0) (zd (i := .aload_n 0) (n := 1) (by decide +kernel)) rfl <|
    z_dup (zd (i := .dup) (n := 1) (by decide +kernel)) <|
    z_getI (ci := 6) (j := 4) (idx := 25) (zd (i := .getfield 25) (n := 3) (by decide +kernel)) (by decide +kernel) (by decide +kernel) rfl g211 <|
    z_iconst (n := 1) (zd (i := .iconst (1)) (n := 1) (by decide +kernel)) (by decide +kernel) <|
    z_iadd (zd (i := .iadd) (n := 1) (by decide +kernel)) <|
    z_putI (ci := 6) (j := 4) (idx := 25) (zd (i := .putfield 25) (n := 3) (by decide +kernel)) (by decide +kernel) (by decide +kernel) rfl g211 (Or.inl rfl) <|
    z_goto (off := -56) (tgt := 8) (zd (i := .goto (-56)) (n := 3) (by decide +kernel)) (by decide +kernel) (zj (hj 1) (by decide +kernel))
noncomputable def b_X6_scanDigits_4 : zBl := fun jp K => oAld 0 <| oGetR 6 3 <| oIld 2 <| oLld 4 <| oLast <| oAld 0 <| oGetR 6 1 <| oIld 2 <| oAld 0 <| oGetI 6 4 <| oIld 3 <| oB2 zsub <| oInt 2147483652 <| oIc zle zgt (jp 6) (jp 5)
theorem s_X6_scanDigits_4 (d : Nat) : zPb l G gh (d + 2) n_X6_scanDigits p_X6_scanDigits 67 b_X6_scanDigits_4 := fun K jp hj =>
    z_aload_n (n := 0) (i := 0) (zd (i := .aload_n 0) (n := 1) (by decide +kernel)) rfl <|
    z_getR (ci := 6) (j := 3) (idx := 22) (zd (i := .getfield 22) (n := 3) (by decide +kernel)) (by decide +kernel) (by decide +kernel) rfl g209 <|
    z_iload_n (n := 2) (i := 2) (zd (i := .iload_n 2) (n := 1) (by decide +kernel)) rfl <|
    z_lload (i := 4) (zd (i := .lload 4) (n := 2) (by decide +kernel)) <|
    z_last (zd (i := .lastore) (n := 1) (by decide +kernel)) <|
    z_aload_n (n := 0) (i := 0) (zd (i := .aload_n 0) (n := 1) (by decide +kernel)) rfl <|
    z_getR (ci := 6) (j := 1) (idx := 15) (zd (i := .getfield 15) (n := 3) (by decide +kernel)) (by decide +kernel) (by decide +kernel) rfl g205 <|
    z_iload_n (n := 2) (i := 2) (zd (i := .iload_n 2) (n := 1) (by decide +kernel)) rfl <|
    z_aload_n (n := 0) (i := 0) (zd (i := .aload_n 0) (n := 1) (by decide +kernel)) rfl <|
    z_getI (ci := 6) (j := 4) (idx := 25) (zd (i := .getfield 25) (n := 3) (by decide +kernel)) (by decide +kernel) (by decide +kernel) rfl g211 <|
    z_iload_n (n := 3) (i := 3) (zd (i := .iload_n 3) (n := 1) (by decide +kernel)) rfl <|
    z_isub (zd (i := .isub) (n := 1) (by decide +kernel)) <|
    z_iconst (n := 4) (zd (i := .iconst (4)) (n := 1) (by decide +kernel)) (by decide +kernel) <|
    z_icmp_le (off := 7) (tgt := 94) (zd (i := .if_icmp .le (7)) (n := 3) (by decide +kernel)) (by decide +kernel) (zj (hj 6) (by decide +kernel)) (zj (hj 5) (by decide +kernel))
noncomputable def b_X6_scanDigits_5 : zBl := fun jp K => oInt 2147483649 <| jp 7
theorem s_X6_scanDigits_5 (d : Nat) : zPb l G gh (d + 2) n_X6_scanDigits p_X6_scanDigits 90 b_X6_scanDigits_5 := fun K jp hj =>
    z_iconst (n := 1) (zd (i := .iconst (1)) (n := 1) (by decide +kernel)) (by decide +kernel) <|
    z_goto (off := 4) (tgt := 95) (zd (i := .goto (4)) (n := 3) (by decide +kernel)) (by decide +kernel) (zj (hj 7) (by decide +kernel))
noncomputable def b_X6_scanDigits_6 : zBl := fun jp K => oInt 2147483651 <| jp 7
theorem s_X6_scanDigits_6 (d : Nat) : zPb l G gh (d + 2) n_X6_scanDigits p_X6_scanDigits 94 b_X6_scanDigits_6 := fun K jp hj =>
    z_iconst (n := 3) (zd (i := .iconst (3)) (n := 1) (by decide +kernel)) (by decide +kernel) <|
    (zj (hj 7) (by decide +kernel))
noncomputable def b_X6_scanDigits_7 : zBl := fun jp K => oXast 10 zid <| oVret K
theorem s_X6_scanDigits_7 (d : Nat) : zPb l G gh (d + 2) n_X6_scanDigits p_X6_scanDigits 95 b_X6_scanDigits_7 := fun K jp hj =>
    z_iast (zd (i := .iastore) (n := 1) (by decide +kernel)) <|
    z_vret (zd (i := .return_) (n := 1) (by decide +kernel)) rfl
noncomputable def t_X6_scanDigits : List zBl := [b_X6_scanDigits_0, b_X6_scanDigits_1, b_X6_scanDigits_2, b_X6_scanDigits_3, b_X6_scanDigits_4, b_X6_scanDigits_5, b_X6_scanDigits_6, b_X6_scanDigits_7]
theorem tt_X6_scanDigits (d : Nat) : zT (zPb l G gh (d + 2) n_X6_scanDigits p_X6_scanDigits) t_X6_scanDigits p_X6_scanDigits := ⟨s_X6_scanDigits_0 d, s_X6_scanDigits_1 d, s_X6_scanDigits_2 d, s_X6_scanDigits_3 d, s_X6_scanDigits_4 d, s_X6_scanDigits_5 d, s_X6_scanDigits_6 d, s_X6_scanDigits_7 d, trivial⟩
def q_X6_scanDigits_0 : List (Nat × Nat) := [(1, zk25), (2, zk26), (4, zk0), (6, zk2), (8, 143923)]
noncomputable def al_X6_scanDigits_0 : zAq := [(none, [(1, zk25), (2, zk26), (4, zk29), (6, zk30), (8, 12851)])]
def mq_X6_scanDigits_0_1 : List (Nat × Nat) := [(1, zk25), (2, zk26), (4, zk29), (6, zk2), (8, 143923)]
noncomputable def fm_X6_scanDigits_0 : List zFm := [(0, [], (fun vs => [.inr (.ref 4), .inr (.ref 1), .inl 9223372043297227152]), (fun vs => zP q_X6_scanDigits_0), (fun vs => Nat.sub (Nat.add 2001 0) 0)),
  (1, [(1000404, 2147483648, 2147485648)], (fun vs => [.inr (.ref 4), .inr (.ref 1), .inl 9223372043297227152, .inl 9223372043297228752, .inr (.double 0)]), (fun vs => zfset (zP mq_X6_scanDigits_0_1) 4 4 (zmkc (zn 0 vs 0) 2147485648)), (fun vs => Nat.sub (Nat.add 2147485648 0) (Nat.add 0 (Nat.mul 1 (zn 0 vs 0)))))]
def bf_X6_scanDigits_0 : List Nat := [0, 2]
theorem r_X6_scanDigits_0_0 : zbox [] (fun vs => zFrun (zpost (zAlq al_X6_scanDigits_0)) 1000 t_X6_scanDigits fm_X6_scanDigits_0 bf_X6_scanDigits_0 (0, vs)) = true := by decide +kernel
theorem r_X6_scanDigits_0_1_0 : zbox [(1000404, 2147483648, 2147484800)] (fun vs => zFrun (zpost (zAlq al_X6_scanDigits_0)) 1000 t_X6_scanDigits fm_X6_scanDigits_0 bf_X6_scanDigits_0 (1, vs)) = true := by decide +kernel
theorem r_X6_scanDigits_0_1_1 : zbox [(1000404, 2147484801, 2147485648)] (fun vs => zFrun (zpost (zAlq al_X6_scanDigits_0)) 1000 t_X6_scanDigits fm_X6_scanDigits_0 bf_X6_scanDigits_0 (1, vs)) = true := by decide +kernel
set_option maxRecDepth 100000 in
theorem x_X6_scanDigits_0 (d : Nat) : zS l G gh (d + 2) (zpost (zAlq al_X6_scanDigits_0)) n_X6_scanDigits (zn 0 p_X6_scanDigits 0) (zwc (0, [.inr (.ref 4), .inr (.ref 1), .inl 9223372043297227152], zP q_X6_scanDigits_0) 0) := zentry (tt_X6_scanDigits d) fm_X6_scanDigits_0 bf_X6_scanDigits_0 1000 (by decide +kernel) rfl ⟨Nat.zero_lt_succ _, trivial⟩ (fun f hf => match f, hf with
  | 0, _ => fun vs hv => (zbox_t r_X6_scanDigits_0_0) vs hv
  | 1, _ => fun vs hv => (zbox_t2 (zbox_t r_X6_scanDigits_0_1_0) (zbox_t r_X6_scanDigits_0_1_1)) vs hv
  | f + 2, h => absurd (show f + 2 < 2 from h) (Nat.not_lt.mpr (Nat.le_add_left 2 f)))
noncomputable def gs_X6_scanDigits_0 : zMt := zgq false [] 6 [.inr (.ref 4), .inr (.ref 1), .inl 9223372043297227152] q_X6_scanDigits_0 al_X6_scanDigits_0
set_option maxRecDepth 100000 in
theorem cs_X6_scanDigits_0 (d : Nat) : zC l G gh (d + 2) n_X6_scanDigits gs_X6_scanDigits_0 := zgq_ok0 (pcs := p_X6_scanDigits) (by decide) rfl rfl (fun a ha => by simp only [al_X6_scanDigits_0, List.mem_cons, List.not_mem_nil, or_false] at ha; rcases ha with rfl <;> decide +kernel) (fun gh => x_X6_scanDigits_0 d) (by decide +kernel)
noncomputable def gs_X6_scanDigits : zMt := gs_X6_scanDigits_0
theorem cs_X6_scanDigits (d : Nat) : zC l G gh (d + 2) n_X6_scanDigits gs_X6_scanDigits := (cs_X6_scanDigits_0 d)
def n_J0_length_8abf5 : qMn := (yJ0_length_8abf5, cJ0_length_8abf5, 1, (some Jvm.ClassFile.FieldType.int), 0, 0)
theorem to_J0_length_8abf5 : qTo n_J0_length_8abf5 0 := ⟨g155, g101, ⟨by decide, by decide, by decide +kernel⟩, by decide⟩
def p_J0_length_8abf5 : List Nat := [0]
noncomputable def b_J0_length_8abf5_0 : zBl := fun jp K => oAld 0 <| oSval <| oSlen <| oAld 0 <| oCt 0 f_J0_coder_7d493 <| oB2 zishr <| oIret K
theorem s_J0_length_8abf5_0 (d : Nat) : zPb l G gh (d + 2) n_J0_length_8abf5 p_J0_length_8abf5 0 b_J0_length_8abf5_0 := fun K jp hj =>
    z_aload_n (n := 0) (i := 0) (zd (i := .aload_n 0) (n := 1) (by decide +kernel)) rfl <|
    z_sVal (idx := 9) (zd (i := .getfield 9) (n := 3) (by decide +kernel)) g1713 <|
    z_sLen (zd (i := .arraylength) (n := 1) (by decide +kernel)) <|
    z_aload_n (n := 0) (i := 0) (zd (i := .aload_n 0) (n := 1) (by decide +kernel)) rfl <|
    z_callT (idx := 335) (N := n_J0_coder_7d493) (zd (i := .invokevirtual 335) (n := 3) (by decide +kernel)) to_J0_coder_7d493 g156 g157 g158 rfl rfl rfl (c_J0_coder_7d493 (l := l) (G := G) (gh := gh) (d)) <|
    z_ishr (zd (i := .ishr) (n := 1) (by decide +kernel)) <|
    z_iret (zd (i := .ireturn) (n := 1) (by decide +kernel)) rfl
noncomputable def t_J0_length_8abf5 : List zBl := [b_J0_length_8abf5_0]
theorem tt_J0_length_8abf5 (d : Nat) : zT (zPb l G gh (d + 2) n_J0_length_8abf5 p_J0_length_8abf5) t_J0_length_8abf5 p_J0_length_8abf5 := ⟨s_J0_length_8abf5_0 d, trivial⟩
noncomputable def f_J0_length_8abf5 : zMt := zmet 1 t_J0_length_8abf5
theorem c_J0_length_8abf5 (d : Nat) : zC l G gh (d + 2) n_J0_length_8abf5 f_J0_length_8abf5 := zmet_ok (pcs := p_J0_length_8abf5) (by decide) rfl rfl (tt_J0_length_8abf5 d)
def n_J1_indexOf_4cfef : qMn := (yJ1_indexOf_4cfef, cJ1_indexOf_4cfef, 4, (some Jvm.ClassFile.FieldType.int), 0, 0)
theorem to_J1_indexOf_4cfef : qTo n_J1_indexOf_4cfef 4 := ⟨g570, g102, ⟨by decide, by decide, by decide +kernel⟩, by decide⟩
def p_J1_indexOf_4cfef : List Nat := [0, 7, 9, 27, 29]
noncomputable def b_J1_indexOf_4cfef_0 : zBl := fun jp K => oIld 1 <| oCs 1 f_J1_canEncode_9a6ad <| oIf zne zeq (jp 2) (jp 1)
theorem s_J1_indexOf_4cfef_0 (d : Nat) : zPb l G gh (d + 2) n_J1_indexOf_4cfef p_J1_indexOf_4cfef 0 b_J1_indexOf_4cfef_0 := fun K jp hj =>
    z_iload_n (n := 1) (i := 1) (zd (i := .iload_n 1) (n := 1) (by decide +kernel)) rfl <|
    z_callS (idx := 88) (N := n_J1_canEncode_9a6ad) (zd (i := .invokestatic 88) (n := 3) (by decide +kernel)) to_J1_canEncode_9a6ad g571 g572 rfl rfl (c_J1_canEncode_9a6ad (l := l) (G := G) (gh := gh) (d)) <|
    z_if_ne (off := 5) (tgt := 9) (zd (i := .ifCond .ne (5)) (n := 3) (by decide +kernel)) (by decide +kernel) (zj (hj 2) (by decide +kernel)) (zj (hj 1) (by decide +kernel))
noncomputable def b_J1_indexOf_4cfef_1 : zBl := fun jp K => oInt 2147483647 <| oIret K
theorem s_J1_indexOf_4cfef_1 (d : Nat) : zPb l G gh (d + 2) n_J1_indexOf_4cfef p_J1_indexOf_4cfef 7 b_J1_indexOf_4cfef_1 := fun K jp hj =>
    z_iconst (n := -1) (zd (i := .iconst (-1)) (n := 1) (by decide +kernel)) (by decide +kernel) <|
    z_iret (zd (i := .ireturn) (n := 1) (by decide +kernel)) rfl
noncomputable def b_J1_indexOf_4cfef_2 : zBl := fun jp K => oIld 2 <| oInt 2147483648 <| oM2 zmax <| oIst 2 <| oIld 3 <| oAld 0 <| oSlen <| oM2 zmin <| oIst 3 <| oNLL 2 3 zltN zgeN zn1_lt zn2_lt zn1_ge zn2_ge (jp 4) (jp 3)
theorem s_J1_indexOf_4cfef_2 (d : Nat) : zPb l G gh (d + 2) n_J1_indexOf_4cfef p_J1_indexOf_4cfef 9 b_J1_indexOf_4cfef_2 := fun K jp hj =>
    z_iload_n (n := 2) (i := 2) (zd (i := .iload_n 2) (n := 1) (by decide +kernel)) rfl <|
    z_iconst (n := 0) (zd (i := .iconst (0)) (n := 1) (by decide +kernel)) (by decide +kernel) <|
    z_max (idx := 92) (zd (i := .invokestatic 92) (n := 3) (by decide +kernel)) g574 g575 g111 g576 <|
    z_istore_n (n := 2) (i := 2) (zd (i := .istore_n 2) (n := 1) (by decide +kernel)) rfl (by decide +kernel) <|
    z_iload_n (n := 3) (i := 3) (zd (i := .iload_n 3) (n := 1) (by decide +kernel)) rfl <|
    z_aload_n (n := 0) (i := 0) (zd (i := .aload_n 0) (n := 1) (by decide +kernel)) rfl <|
    z_sLen (zd (i := .arraylength) (n := 1) (by decide +kernel)) <|
    z_min (idx := 38) (zd (i := .invokestatic 38) (n := 3) (by decide +kernel)) g577 g578 g111 g579 <|
    z_istore_n (n := 3) (i := 3) (zd (i := .istore_n 3) (n := 1) (by decide +kernel)) rfl (by decide +kernel) <|
    z_nLL_lt (i := 2) (j := 3) (a1 := 1) (a2 := 1) (off := 5) (tgt := 29) (zLd_n (n := 2) (i := 2) (zd (i := .iload_n 2) (n := 1) (by decide +kernel)) rfl) (zLd_n (n := 3) (i := 3) (zd (i := .iload_n 3) (n := 1) (by decide +kernel)) rfl) (zd (i := .if_icmp .lt (5)) (n := 3) (by decide +kernel)) (by decide +kernel) (zj (hj 4) (by decide +kernel)) (zj (hj 3) (by decide +kernel))
noncomputable def b_J1_indexOf_4cfef_4 : zBl := fun jp K => oAld 0 <| oIld 1 <| oIld 2 <| oIld 3 <| oCs 4 f_J1_indexOfChar_4cfef <| oIret K
theorem s_J1_indexOf_4cfef_4 (d : Nat) : zPb l G gh (d + 2) n_J1_indexOf_4cfef p_J1_indexOf_4cfef 29 b_J1_indexOf_4cfef_4 := fun K jp hj =>
    z_aload_n (n := 0) (i := 0) (zd (i := .aload_n 0) (n := 1) (by decide +kernel)) rfl <|
    z_iload_n (n := 1) (i := 1) (zd (i := .iload_n 1) (n := 1) (by decide +kernel)) rfl <|
    z_iload_n (n := 2) (i := 2) (zd (i := .iload_n 2) (n := 1) (by decide +kernel)) rfl <|
    z_iload_n (n := 3) (i := 3) (zd (i := .iload_n 3) (n := 1) (by decide +kernel)) rfl <|
    z_callS (idx := 95) (N := n_J1_indexOfChar_4cfef) (zd (i := .invokestatic 95) (n := 3) (by decide +kernel)) to_J1_indexOfChar_4cfef g580 g581 rfl rfl (c_J1_indexOfChar_4cfef (l := l) (G := G) (gh := gh) (d)) <|
    z_iret (zd (i := .ireturn) (n := 1) (by decide +kernel)) rfl
noncomputable def t_J1_indexOf_4cfef : List zBl := [b_J1_indexOf_4cfef_0, b_J1_indexOf_4cfef_1, b_J1_indexOf_4cfef_2, zfl, b_J1_indexOf_4cfef_4]
theorem tt_J1_indexOf_4cfef (d : Nat) : zT (zPb l G gh (d + 2) n_J1_indexOf_4cfef p_J1_indexOf_4cfef) t_J1_indexOf_4cfef p_J1_indexOf_4cfef := ⟨s_J1_indexOf_4cfef_0 d, s_J1_indexOf_4cfef_1 d, s_J1_indexOf_4cfef_2 d, (fun _ _ _ => z_fail), s_J1_indexOf_4cfef_4 d, trivial⟩
noncomputable def f_J1_indexOf_4cfef : zMt := zmet 4 t_J1_indexOf_4cfef
theorem c_J1_indexOf_4cfef (d : Nat) : zC l G gh (d + 2) n_J1_indexOf_4cfef f_J1_indexOf_4cfef := zmet_ok (pcs := p_J1_indexOf_4cfef) (by decide) rfl rfl (tt_J1_indexOf_4cfef d)
def n_X1_takeInt : qMn := (yX1_takeInt, cX1_takeInt, 5, (some Jvm.ClassFile.FieldType.int), 0, 0)
theorem to_X1_takeInt : qTo n_X1_takeInt 2 := ⟨g645, g99, ⟨by decide, by decide, by decide +kernel⟩, by decide⟩
def p_X1_takeInt : List Nat := [0, 37, 41, 42, 52, 58, 64, 70]
noncomputable def b_X1_takeInt_0 : zBl := fun jp K => oAld 0 <| oGetR 1 0 <| oGetR 6 2 <| oAld 0 <| oGetI 1 2 <| oXald 10 <| oIst 3 <| oAld 0 <| oGetR 1 0 <| oGetR 6 3 <| oAld 0 <| oGetI 1 2 <| oLald <| oL2i <| oIst 4 <| oAld 0 <| oNFC 0 1 3 2147483651 zneN zeqN zn1_ne zn1_eq (jp 2) (jp 1)
theorem s_X1_takeInt_0 (d : Nat) : zPb l G gh (d + 2) n_X1_takeInt p_X1_takeInt 0 b_X1_takeInt_0 := fun K jp hj =>
    z_aload_n (n := 0) (i := 0) (zd (i := .aload_n 0) (n := 1) (by decide +kernel)) rfl <|
    z_getR (ci := 1) (j := 0) (idx := 12) (zd (i := .getfield 12) (n := 3) (by decide +kernel)) (by decide +kernel) (by decide +kernel) rfl g335 <|
    z_getR (ci := 6) (j := 2) (idx := 58) (zd (i := .getfield 58) (n := 3) (by decide +kernel)) (by decide +kernel) (by decide +kernel) rfl g208 <|
    z_aload_n (n := 0) (i := 0) (zd (i := .aload_n 0) (n := 1) (by decide +kernel)) rfl <|
    z_getI (ci := 1) (j := 2) (idx := 25) (zd (i := .getfield 25) (n := 3) (by decide +kernel)) (by decide +kernel) (by decide +kernel) rfl g337 <|
    z_iald (zd (i := .iaload) (n := 1) (by decide +kernel)) <|
    z_istore_n (n := 3) (i := 3) (zd (i := .istore_n 3) (n := 1) (by decide +kernel)) rfl (by decide +kernel) <|
    z_aload_n (n := 0) (i := 0) (zd (i := .aload_n 0) (n := 1) (by decide +kernel)) rfl <|
    z_getR (ci := 1) (j := 0) (idx := 12) (zd (i := .getfield 12) (n := 3) (by decide +kernel)) (by decide +kernel) (by decide +kernel) rfl g335 <|
    z_getR (ci := 6) (j := 3) (idx := 84) (zd (i := .getfield 84) (n := 3) (by decide +kernel)) (by decide +kernel) (by decide +kernel) rfl g210 <|
    z_aload_n (n := 0) (i := 0) (zd (i := .aload_n 0) (n := 1) (by decide +kernel)) rfl <|
    z_getI (ci := 1) (j := 2) (idx := 25) (zd (i := .getfield 25) (n := 3) (by decide +kernel)) (by decide +kernel) (by decide +kernel) rfl g337 <|
    z_lald (zd (i := .laload) (n := 1) (by decide +kernel)) <|
    z_l2i (zd (i := .l2i) (n := 1) (by decide +kernel)) <|
    z_istore (i := 4) (zd (i := .istore 4) (n := 2) (by decide +kernel)) (by decide +kernel) <|
    z_aload_n (n := 0) (i := 0) (zd (i := .aload_n 0) (n := 1) (by decide +kernel)) rfl <|
    z_nFC_ne (r := 0) (ci := 1) (j := 3) (c0 := 2147483651) (a1 := 4) (a2 := 1) (off := 7) (tgt := 41) (zFd_n (n := 0) (r := 0) (ci := 1) (j := 3) (idx := 29) (zd (i := .aload_n 0) (n := 1) (by decide +kernel)) rfl (zd (i := .getfield 29) (n := 3) (by decide +kernel)) (by decide +kernel) (by decide +kernel) rfl g338) (by decide +kernel) rfl (zCn_c (n := 3) (zd (i := .iconst (3)) (n := 1) (by decide +kernel)) (by decide +kernel)) (zd (i := .if_icmp .ne (7)) (n := 3) (by decide +kernel)) (by decide +kernel) (zj (hj 2) (by decide +kernel)) (zj (hj 1) (by decide +kernel))
noncomputable def b_X1_takeInt_1 : zBl := fun jp K => oInt 2147483649 <| jp 3
theorem s_X1_takeInt_1 (d : Nat) : zPb l G gh (d + 2) n_X1_takeInt p_X1_takeInt 37 b_X1_takeInt_1 := fun K jp hj =>
    z_iconst (n := 1) (zd (i := .iconst (1)) (n := 1) (by decide +kernel)) (by decide +kernel) <|
    z_goto (off := 4) (tgt := 42) (zd (i := .goto (4)) (n := 3) (by decide +kernel)) (by decide +kernel) (zj (hj 3) (by decide +kernel))
noncomputable def b_X1_takeInt_2 : zBl := fun jp K => oInt 2147483648 <| jp 3
theorem s_X1_takeInt_2 (d : Nat) : zPb l G gh (d + 2) n_X1_takeInt p_X1_takeInt 41 b_X1_takeInt_2 := fun K jp hj =>
    z_iconst (n := 0) (zd (i := .iconst (0)) (n := 1) (by decide +kernel)) (by decide +kernel) <|
    (zj (hj 3) (by decide +kernel))
noncomputable def b_X1_takeInt_3 : zBl := fun jp K => oCv 1 1 gs_X1_take <| oNFC 0 1 4 2147483648 zneN zeqN zn1_ne zn1_eq (jp 7) (jp 4)
theorem s_X1_takeInt_3 (d : Nat) : zPb l G gh (d + 2) n_X1_takeInt p_X1_takeInt 42 b_X1_takeInt_3 := fun K jp hj =>
    z_callV (idx := 71) (ci := 1) (N := n_X1_take) (zd (i := .invokevirtual 71) (n := 3) (by decide +kernel)) to_X1_take g626 g628 g7 (by decide +kernel) rfl rfl rfl (cs_X1_take (l := l) (G := G) (gh := gh) (d)) <|
    z_nF0_ne (r := 0) (ci := 1) (j := 4) (a1 := 4) (off := 21) (tgt := 70) (zFd_n (n := 0) (r := 0) (ci := 1) (j := 4) (idx := 32) (zd (i := .aload_n 0) (n := 1) (by decide +kernel)) rfl (zd (i := .getfield 32) (n := 3) (by decide +kernel)) (by decide +kernel) (by decide +kernel) rfl g339) (by decide +kernel) rfl (zd (i := .ifCond .ne (21)) (n := 3) (by decide +kernel)) (by decide +kernel) (zj (hj 7) (by decide +kernel)) (zj (hj 4) (by decide +kernel))
noncomputable def b_X1_takeInt_4 : zBl := fun jp K => oNLL 4 1 zltN zgeN zn1_lt zn2_lt zn1_ge zn2_ge (jp 6) (jp 5)
theorem s_X1_takeInt_4 (d : Nat) : zPb l G gh (d + 2) n_X1_takeInt p_X1_takeInt 52 b_X1_takeInt_4 := fun K jp hj =>
    z_nLL_lt (i := 4) (j := 1) (a1 := 2) (a2 := 1) (off := 9) (tgt := 64) (zLd_w (i := 4) (zd (i := .iload 4) (n := 2) (by decide +kernel))) (zLd_n (n := 1) (i := 1) (zd (i := .iload_n 1) (n := 1) (by decide +kernel)) rfl) (zd (i := .if_icmp .lt (9)) (n := 3) (by decide +kernel)) (by decide +kernel) (zj (hj 6) (by decide +kernel)) (zj (hj 5) (by decide +kernel))
noncomputable def b_X1_takeInt_5 : zBl := fun jp K => oNLL 4 2 zleN zgtN zn1_le zn2_le zn1_gt zn2_gt (jp 7) (jp 6)
theorem s_X1_takeInt_5 (d : Nat) : zPb l G gh (d + 2) n_X1_takeInt p_X1_takeInt 58 b_X1_takeInt_5 := fun K jp hj =>
    z_nLL_le (i := 4) (j := 2) (a1 := 2) (a2 := 1) (off := 9) (tgt := 70) (zLd_w (i := 4) (zd (i := .iload 4) (n := 2) (by decide +kernel))) (zLd_n (n := 2) (i := 2) (zd (i := .iload_n 2) (n := 1) (by decide +kernel)) rfl) (zd (i := .if_icmp .le (9)) (n := 3) (by decide +kernel)) (by decide +kernel) (zj (hj 7) (by decide +kernel)) (zj (hj 6) (by decide +kernel))
noncomputable def b_X1_takeInt_6 : zBl := fun jp K => oAld 0 <| oInt 2147483653 <| oIld 3 <| oCv 1 2 f_X1_note <| jp 7
theorem s_X1_takeInt_6 (d : Nat) : zPb l G gh (d + 2) n_X1_takeInt p_X1_takeInt 64 b_X1_takeInt_6 := fun K jp hj =>
    z_aload_n (n := 0) (i := 0) (zd (i := .aload_n 0) (n := 1) (by decide +kernel)) rfl <|
    z_iconst (n := 5) (zd (i := .iconst (5)) (n := 1) (by decide +kernel)) (by decide +kernel) <|
    z_iload_n (n := 3) (i := 3) (zd (i := .iload_n 3) (n := 1) (by decide +kernel)) rfl <|
    z_callV (idx := 92) (ci := 1) (N := n_X1_note) (zd (i := .invokevirtual 92) (n := 3) (by decide +kernel)) to_X1_note g638 g640 g9 (by decide +kernel) rfl rfl rfl (c_X1_note (l := l) (G := G) (gh := gh) (d)) <|
    (zj (hj 7) (by decide +kernel))
noncomputable def b_X1_takeInt_7 : zBl := fun jp K => oIld 4 <| oIret K
theorem s_X1_takeInt_7 (d : Nat) : zPb l G gh (d + 2) n_X1_takeInt p_X1_takeInt 70 b_X1_takeInt_7 := fun K jp hj =>
    z_iload (i := 4) (zd (i := .iload 4) (n := 2) (by decide +kernel)) <|
    z_iret (zd (i := .ireturn) (n := 1) (by decide +kernel)) rfl
noncomputable def t_X1_takeInt : List zBl := [b_X1_takeInt_0, b_X1_takeInt_1, b_X1_takeInt_2, b_X1_takeInt_3, b_X1_takeInt_4, b_X1_takeInt_5, b_X1_takeInt_6, b_X1_takeInt_7]
theorem tt_X1_takeInt (d : Nat) : zT (zPb l G gh (d + 2) n_X1_takeInt p_X1_takeInt) t_X1_takeInt p_X1_takeInt := ⟨s_X1_takeInt_0 d, s_X1_takeInt_1 d, s_X1_takeInt_2 d, s_X1_takeInt_3 d, s_X1_takeInt_4 d, s_X1_takeInt_5 d, s_X1_takeInt_6 d, s_X1_takeInt_7 d, trivial⟩
def q_X1_takeInt_0 : List (Nat × Nat) := [(3, zk1), (4, zk0), (6, zk2), (7, zk2), (8, 143923)]
noncomputable def al_X1_takeInt_0 : zAq := [(some (.inl 8589934591), [(3, zk3), (4, zk0), (6, zk2), (7, zk2), (8, 143923)])]
noncomputable def fm_X1_takeInt_0 : List zFm := [(0, [], (fun vs => [.inr (.ref 3), .inl 8589934591, .inl 8589934591]), (fun vs => zP q_X1_takeInt_0), (fun vs => Nat.sub (Nat.add 0 0) 0))]
def bf_X1_takeInt_0 : List Nat := []
theorem r_X1_takeInt_0_0 : zbox [] (fun vs => zFrun (zpost (zAlq al_X1_takeInt_0)) 1000 t_X1_takeInt fm_X1_takeInt_0 bf_X1_takeInt_0 (0, vs)) = true := by decide +kernel
set_option maxRecDepth 100000 in
theorem x_X1_takeInt_0 (d : Nat) : zS l G gh (d + 2) (zpost (zAlq al_X1_takeInt_0)) n_X1_takeInt (zn 0 p_X1_takeInt 0) (zwc (0, [.inr (.ref 3), .inl 8589934591, .inl 8589934591], zP q_X1_takeInt_0) 0) := zentry (tt_X1_takeInt d) fm_X1_takeInt_0 bf_X1_takeInt_0 1000 (by decide +kernel) rfl ⟨Nat.zero_lt_succ _, trivial⟩ (fun f hf => match f, hf with
  | 0, _ => fun vs hv => (zbox_t r_X1_takeInt_0_0) vs hv
  | f + 1, h => absurd (show f + 1 < 1 from h) (Nat.not_lt.mpr (Nat.le_add_left 1 f)))
noncomputable def gs_X1_takeInt_0 : zMt := zgq false [] 5 [.inr (.ref 3), .inl 8589934591, .inl 8589934591] q_X1_takeInt_0 al_X1_takeInt_0
set_option maxRecDepth 100000 in
theorem cs_X1_takeInt_0 (d : Nat) : zC l G gh (d + 2) n_X1_takeInt gs_X1_takeInt_0 := zgq_ok0 (pcs := p_X1_takeInt) (by decide) rfl rfl (fun a ha => by simp only [al_X1_takeInt_0, List.mem_cons, List.not_mem_nil, or_false] at ha; rcases ha with rfl <;> decide +kernel) (fun gh => x_X1_takeInt_0 d) (by decide +kernel)
def q_X1_takeInt_1 : List (Nat × Nat) := [(3, zk4), (4, zk0), (6, zk2), (7, zk2), (8, 143923)]
noncomputable def al_X1_takeInt_1 : zAq := [(some (.inl 8589934591), [(3, zk5), (4, zk0), (6, zk2), (7, zk2), (8, 143923)])]
noncomputable def fm_X1_takeInt_1 : List zFm := [(0, [], (fun vs => [.inr (.ref 3), .inl 8589934591, .inl 8589934591]), (fun vs => zP q_X1_takeInt_1), (fun vs => Nat.sub (Nat.add 0 0) 0))]
def bf_X1_takeInt_1 : List Nat := []
theorem r_X1_takeInt_1_0 : zbox [] (fun vs => zFrun (zpost (zAlq al_X1_takeInt_1)) 1000 t_X1_takeInt fm_X1_takeInt_1 bf_X1_takeInt_1 (0, vs)) = true := by decide +kernel
set_option maxRecDepth 100000 in
theorem x_X1_takeInt_1 (d : Nat) : zS l G gh (d + 2) (zpost (zAlq al_X1_takeInt_1)) n_X1_takeInt (zn 0 p_X1_takeInt 0) (zwc (0, [.inr (.ref 3), .inl 8589934591, .inl 8589934591], zP q_X1_takeInt_1) 0) := zentry (tt_X1_takeInt d) fm_X1_takeInt_1 bf_X1_takeInt_1 1000 (by decide +kernel) rfl ⟨Nat.zero_lt_succ _, trivial⟩ (fun f hf => match f, hf with
  | 0, _ => fun vs hv => (zbox_t r_X1_takeInt_1_0) vs hv
  | f + 1, h => absurd (show f + 1 < 1 from h) (Nat.not_lt.mpr (Nat.le_add_left 1 f)))
noncomputable def gs_X1_takeInt_1 : zMt := zgq false [] 5 [.inr (.ref 3), .inl 8589934591, .inl 8589934591] q_X1_takeInt_1 al_X1_takeInt_1
set_option maxRecDepth 100000 in
theorem cs_X1_takeInt_1 (d : Nat) : zC l G gh (d + 2) n_X1_takeInt gs_X1_takeInt_1 := zgq_ok0 (pcs := p_X1_takeInt) (by decide) rfl rfl (fun a ha => by simp only [al_X1_takeInt_1, List.mem_cons, List.not_mem_nil, or_false] at ha; rcases ha with rfl <;> decide +kernel) (fun gh => x_X1_takeInt_1 d) (by decide +kernel)
noncomputable def gs_X1_takeInt : zMt := (zor gs_X1_takeInt_0 gs_X1_takeInt_1)
theorem cs_X1_takeInt (d : Nat) : zC l G gh (d + 2) n_X1_takeInt gs_X1_takeInt := (zor_ok (cs_X1_takeInt_0 d) (cs_X1_takeInt_1 d))
def n_X4_keepOnly : qMn := (yX4_keepOnly, cX4_keepOnly, 3, none, 0, 0)
theorem to_X4_keepOnly : qTo n_X4_keepOnly 1 := ⟨g691, g107, ⟨by decide, by decide, by decide +kernel⟩, by decide⟩
def p_X4_keepOnly : List Nat := [0, 2, 11, 16, 21, 27]
noncomputable def b_X4_keepOnly_0 : zBl := fun jp K => oInt 2147483648 <| oIst 2 <| jp 1
theorem s_X4_keepOnly_0 (d : Nat) : zPb l G gh (d + 2) n_X4_keepOnly p_X4_keepOnly 0 b_X4_keepOnly_0 := fun K jp hj =>
    z_iconst (n := 0) (zd (i := .iconst (0)) (n := 1) (by decide +kernel)) (by decide +kernel) <|
    z_istore_n (n := 2) (i := 2) (zd (i := .istore_n 2) (n := 1) (by decide +kernel)) rfl (by decide +kernel) <|
    (zj (hj 1) (by decide +kernel))
noncomputable def b_X4_keepOnly_1 : zBl := fun jp K => oIld 2 <| oAld 0 <| oGetR 4 5 <| oAlen <| oIc zge zlt (jp 5) (jp 2)
theorem s_X4_keepOnly_1 (d : Nat) : zPb l G gh (d + 2) n_X4_keepOnly p_X4_keepOnly 2 b_X4_keepOnly_1 := fun K jp hj =>
    z_iload_n (n := 2) (i := 2) (zd (i := .iload_n 2) (n := 1) (by decide +kernel)) rfl <|
    z_aload_n (n := 0) (i := 0) (zd (i := .aload_n 0) (n := 1) (by decide +kernel)) rfl <|
    z_getR (ci := 4) (j := 5) (idx := 28) (zd (i := .getfield 28) (n := 3) (by decide +kernel)) (by decide +kernel) (by decide +kernel) rfl g382 <|
    z_alen (zd (i := .arraylength) (n := 1) (by decide +kernel)) <|
    z_icmp_ge (off := 19) (tgt := 27) (zd (i := .if_icmp .ge (19)) (n := 3) (by decide +kernel)) (by decide +kernel) (zj (hj 5) (by decide +kernel)) (zj (hj 2) (by decide +kernel))
noncomputable def b_X4_keepOnly_2 : zBl := fun jp K => oNLL 2 1 zeqN zneN zn1_eq zn2_eq zn1_ne zn2_ne (jp 4) (jp 3)
theorem s_X4_keepOnly_2 (d : Nat) : zPb l G gh (d + 2) n_X4_keepOnly p_X4_keepOnly 11 b_X4_keepOnly_2 := fun K jp hj =>
    z_nLL_eq (i := 2) (j := 1) (a1 := 1) (a2 := 1) (off := 8) (tgt := 21) (zLd_n (n := 2) (i := 2) (zd (i := .iload_n 2) (n := 1) (by decide +kernel)) rfl) (zLd_n (n := 1) (i := 1) (zd (i := .iload_n 1) (n := 1) (by decide +kernel)) rfl) (zd (i := .if_icmp .eq (8)) (n := 3) (by decide +kernel)) (by decide +kernel) (zj (hj 4) (by decide +kernel)) (zj (hj 3) (by decide +kernel))
noncomputable def b_X4_keepOnly_3 : zBl := fun jp K => oAld 0 <| oIld 2 <| oCv 4 1 f_X4_end <| jp 4
theorem s_X4_keepOnly_3 (d : Nat) : zPb l G gh (d + 2) n_X4_keepOnly p_X4_keepOnly 16 b_X4_keepOnly_3 := fun K jp hj =>
    z_aload_n (n := 0) (i := 0) (zd (i := .aload_n 0) (n := 1) (by decide +kernel)) rfl <|
    z_iload_n (n := 2) (i := 2) (zd (i := .iload_n 2) (n := 1) (by decide +kernel)) rfl <|
    z_callV (idx := 56) (ci := 4) (N := n_X4_end) (zd (i := .invokevirtual 56) (n := 3) (by decide +kernel)) to_X4_end g692 g693 g694 (by decide +kernel) rfl rfl rfl (c_X4_end (l := l) (G := G) (gh := gh) (d)) <|
    (zj (hj 4) (by decide +kernel))
noncomputable def b_X4_keepOnly_4 : zBl := fun jp K => oInc 2 2147483649 <| jp 1
theorem s_X4_keepOnly_4 (d : Nat) : zPb l G gh (d + 2) n_X4_keepOnly p_X4_keepOnly 21 b_X4_keepOnly_4 := fun K jp hj =>
    z_iinc (i := 2) (n := 1) (zd (i := .iinc 2 (1)) (n := 3) (by decide +kernel)) (by decide +kernel) (by decide +kernel) <|
    z_goto (off := -22) (tgt := 2) (zd (i := .goto (-22)) (n := 3) (by decide +kernel)) (by decide +kernel) (zj (hj 1) (by decide +kernel))
noncomputable def b_X4_keepOnly_5 : zBl := fun jp K => oVret K
theorem s_X4_keepOnly_5 (d : Nat) : zPb l G gh (d + 2) n_X4_keepOnly p_X4_keepOnly 27 b_X4_keepOnly_5 := fun K jp hj =>
    z_vret (zd (i := .return_) (n := 1) (by decide +kernel)) rfl
noncomputable def t_X4_keepOnly : List zBl := [b_X4_keepOnly_0, b_X4_keepOnly_1, b_X4_keepOnly_2, b_X4_keepOnly_3, b_X4_keepOnly_4, b_X4_keepOnly_5]
theorem tt_X4_keepOnly (d : Nat) : zT (zPb l G gh (d + 2) n_X4_keepOnly p_X4_keepOnly) t_X4_keepOnly p_X4_keepOnly := ⟨s_X4_keepOnly_0 d, s_X4_keepOnly_1 d, s_X4_keepOnly_2 d, s_X4_keepOnly_3 d, s_X4_keepOnly_4 d, s_X4_keepOnly_5 d, trivial⟩
def q_X4_keepOnly_0 : List (Nat × Nat) := [(21, zk22), (26, zk23), (27, zk23)]
noncomputable def al_X4_keepOnly_0 : zAq := [(none, [(21, zk22), (26, zk31), (27, zk31)])]
def mq_X4_keepOnly_0_1 : List (Nat × Nat) := [(21, zk22), (26, zk31), (27, zk31)]
noncomputable def fm_X4_keepOnly_0 : List zFm := [(0, [], (fun vs => [.inr (.ref 21), .inl 8589934591]), (fun vs => zP q_X4_keepOnly_0), (fun vs => Nat.sub (Nat.add 37 0) 0)),
  (1, [(2, 2147483648, 2147483684)], (fun vs => [.inr (.ref 21), .inl 8589934591, .inl (zn 0 vs 0)]), (fun vs => zP mq_X4_keepOnly_0_1), (fun vs => Nat.sub (Nat.add 2147483684 0) (Nat.add 0 (Nat.mul 1 (zn 0 vs 0)))))]
def bf_X4_keepOnly_0 : List Nat := [0, 2]
theorem r_X4_keepOnly_0_0 : zbox [] (fun vs => zFrun (zpost (zAlq al_X4_keepOnly_0)) 1000 t_X4_keepOnly fm_X4_keepOnly_0 bf_X4_keepOnly_0 (0, vs)) = true := by decide +kernel
theorem r_X4_keepOnly_0_1 : zbox [(2, 2147483648, 2147483684)] (fun vs => zFrun (zpost (zAlq al_X4_keepOnly_0)) 1000 t_X4_keepOnly fm_X4_keepOnly_0 bf_X4_keepOnly_0 (1, vs)) = true := by decide +kernel
set_option maxRecDepth 100000 in
theorem x_X4_keepOnly_0 (d : Nat) : zS l G gh (d + 2) (zpost (zAlq al_X4_keepOnly_0)) n_X4_keepOnly (zn 0 p_X4_keepOnly 0) (zwc (0, [.inr (.ref 21), .inl 8589934591], zP q_X4_keepOnly_0) 0) := zentry (tt_X4_keepOnly d) fm_X4_keepOnly_0 bf_X4_keepOnly_0 1000 (by decide +kernel) rfl ⟨Nat.zero_lt_succ _, trivial⟩ (fun f hf => match f, hf with
  | 0, _ => fun vs hv => (zbox_t r_X4_keepOnly_0_0) vs hv
  | 1, _ => fun vs hv => (zbox_t r_X4_keepOnly_0_1) vs hv
  | f + 2, h => absurd (show f + 2 < 2 from h) (Nat.not_lt.mpr (Nat.le_add_left 2 f)))
noncomputable def gs_X4_keepOnly_0 : zMt := zgq false [] 3 [.inr (.ref 21), .inl 8589934591] q_X4_keepOnly_0 al_X4_keepOnly_0
set_option maxRecDepth 100000 in
theorem cs_X4_keepOnly_0 (d : Nat) : zC l G gh (d + 2) n_X4_keepOnly gs_X4_keepOnly_0 := zgq_ok0 (pcs := p_X4_keepOnly) (by decide) rfl rfl (fun a ha => by simp only [al_X4_keepOnly_0, List.mem_cons, List.not_mem_nil, or_false] at ha; rcases ha with rfl <;> decide +kernel) (fun gh => x_X4_keepOnly_0 d) (by decide +kernel)
def q_X4_keepOnly_1 : List (Nat × Nat) := [(28, zk32), (33, zk23), (34, zk23)]
noncomputable def al_X4_keepOnly_1 : zAq := [(none, [(28, zk32), (33, zk31), (34, zk31)])]
def mq_X4_keepOnly_1_1 : List (Nat × Nat) := [(28, zk32), (33, zk31), (34, zk31)]
noncomputable def fm_X4_keepOnly_1 : List zFm := [(0, [], (fun vs => [.inr (.ref 28), .inl 8589934591]), (fun vs => zP q_X4_keepOnly_1), (fun vs => Nat.sub (Nat.add 37 0) 0)),
  (1, [(2, 2147483648, 2147483684)], (fun vs => [.inr (.ref 28), .inl 8589934591, .inl (zn 0 vs 0)]), (fun vs => zP mq_X4_keepOnly_1_1), (fun vs => Nat.sub (Nat.add 2147483684 0) (Nat.add 0 (Nat.mul 1 (zn 0 vs 0)))))]
def bf_X4_keepOnly_1 : List Nat := [0, 2]
theorem r_X4_keepOnly_1_0 : zbox [] (fun vs => zFrun (zpost (zAlq al_X4_keepOnly_1)) 1000 t_X4_keepOnly fm_X4_keepOnly_1 bf_X4_keepOnly_1 (0, vs)) = true := by decide +kernel
theorem r_X4_keepOnly_1_1 : zbox [(2, 2147483648, 2147483684)] (fun vs => zFrun (zpost (zAlq al_X4_keepOnly_1)) 1000 t_X4_keepOnly fm_X4_keepOnly_1 bf_X4_keepOnly_1 (1, vs)) = true := by decide +kernel
set_option maxRecDepth 100000 in
theorem x_X4_keepOnly_1 (d : Nat) : zS l G gh (d + 2) (zpost (zAlq al_X4_keepOnly_1)) n_X4_keepOnly (zn 0 p_X4_keepOnly 0) (zwc (0, [.inr (.ref 28), .inl 8589934591], zP q_X4_keepOnly_1) 0) := zentry (tt_X4_keepOnly d) fm_X4_keepOnly_1 bf_X4_keepOnly_1 1000 (by decide +kernel) rfl ⟨Nat.zero_lt_succ _, trivial⟩ (fun f hf => match f, hf with
  | 0, _ => fun vs hv => (zbox_t r_X4_keepOnly_1_0) vs hv
  | 1, _ => fun vs hv => (zbox_t r_X4_keepOnly_1_1) vs hv
  | f + 2, h => absurd (show f + 2 < 2 from h) (Nat.not_lt.mpr (Nat.le_add_left 2 f)))
noncomputable def gs_X4_keepOnly_1 : zMt := zgq false [] 3 [.inr (.ref 28), .inl 8589934591] q_X4_keepOnly_1 al_X4_keepOnly_1
set_option maxRecDepth 100000 in
theorem cs_X4_keepOnly_1 (d : Nat) : zC l G gh (d + 2) n_X4_keepOnly gs_X4_keepOnly_1 := zgq_ok0 (pcs := p_X4_keepOnly) (by decide) rfl rfl (fun a ha => by simp only [al_X4_keepOnly_1, List.mem_cons, List.not_mem_nil, or_false] at ha; rcases ha with rfl <;> decide +kernel) (fun gh => x_X4_keepOnly_1 d) (by decide +kernel)
noncomputable def gs_X4_keepOnly : zMt := (zor gs_X4_keepOnly_0 gs_X4_keepOnly_1)
theorem cs_X4_keepOnly (d : Nat) : zC l G gh (d + 2) n_X4_keepOnly gs_X4_keepOnly := (zor_ok (cs_X4_keepOnly_0 d) (cs_X4_keepOnly_1 d))
def n_X2_reckon : qMn := (yX2_reckon, cX2_reckon, 6, (some Jvm.ClassFile.FieldType.int), 0, 0)
theorem to_X2_reckon : qTo n_X2_reckon 1 := ⟨g731, g106, ⟨by decide, by decide, by decide +kernel⟩, by decide⟩
def p_X2_reckon : List Nat := [0, 9, 13, 21, 46, 52, 54, 64, 69, 75, 82, 89, 93, 104, 105, 106, 111, 117, 128, 130, 140, 157, 161, 167, 171, 199, 202]
noncomputable def b_X2_reckon_0 : zBl := fun jp K => oInt 2147483648 <| oIst 2 <| oAld 0 <| oGetR 2 3 <| oIld 1 <| oXald 10 <| oIst 3 <| jp 1
theorem s_X2_reckon_0 (d : Nat) : zPb l G gh (d + 2) n_X2_reckon p_X2_reckon 0 b_X2_reckon_0 := fun K jp hj =>
    z_iconst (n := 0) (zd (i := .iconst (0)) (n := 1) (by decide +kernel)) (by decide +kernel) <|
    z_istore_n (n := 2) (i := 2) (zd (i := .istore_n 2) (n := 1) (by decide +kernel)) rfl (by decide +kernel) <|
    z_aload_n (n := 0) (i := 0) (zd (i := .aload_n 0) (n := 1) (by decide +kernel)) rfl <|
    z_getR (ci := 2) (j := 3) (idx := 22) (zd (i := .getfield 22) (n := 3) (by decide +kernel)) (by decide +kernel) (by decide +kernel) rfl g240 <|
    z_iload_n (n := 1) (i := 1) (zd (i := .iload_n 1) (n := 1) (by decide +kernel)) rfl <|
    z_iald (zd (i := .iaload) (n := 1) (by decide +kernel)) <|
    z_istore_n (n := 3) (i := 3) (zd (i := .istore_n 3) (n := 1) (by decide +kernel)) rfl (by decide +kernel) <|
    (zj (hj 1) (by decide +kernel))
noncomputable def b_X2_reckon_1 : zBl := fun jp K => oNLC 3 2147483648 zltN zgeN zn1_lt zn1_ge (jp 26) (jp 2)
theorem s_X2_reckon_1 (d : Nat) : zPb l G gh (d + 2) n_X2_reckon p_X2_reckon 9 b_X2_reckon_1 := fun K jp hj =>
    z_nL0_lt (i := 3) (a1 := 1) (off := 192) (tgt := 202) (zLd_n (n := 3) (i := 3) (zd (i := .iload_n 3) (n := 1) (by decide +kernel)) rfl) (zd (i := .ifCond .lt (192)) (n := 3) (by decide +kernel)) (by decide +kernel) (zj (hj 26) (by decide +kernel)) (zj (hj 2) (by decide +kernel))
noncomputable def b_X2_reckon_2 : zBl := fun jp K => oNLF 3 0 2 2 zgeN zltN zn1_ge zn1_lt (jp 26) (jp 3)
theorem s_X2_reckon_2 (d : Nat) : zPb l G gh (d + 2) n_X2_reckon p_X2_reckon 13 b_X2_reckon_2 := fun K jp hj =>
    z_nLF_ge (i := 3) (r := 0) (ci := 2) (j := 2) (a1 := 1) (a2 := 4) (off := 184) (tgt := 202) (zLd_n (n := 3) (i := 3) (zd (i := .iload_n 3) (n := 1) (by decide +kernel)) rfl) (zFd_n (n := 0) (r := 0) (ci := 2) (j := 2) (idx := 18) (zd (i := .aload_n 0) (n := 1) (by decide +kernel)) rfl (zd (i := .getfield 18) (n := 3) (by decide +kernel)) (by decide +kernel) (by decide +kernel) rfl g239) (by decide +kernel) rfl (zd (i := .if_icmp .ge (184)) (n := 3) (by decide +kernel)) (by decide +kernel) (zj (hj 26) (by decide +kernel)) (zj (hj 3) (by decide +kernel))
noncomputable def b_X2_reckon_3 : zBl := fun jp K => oAld 0 <| oGetR 2 0 <| oIld 3 <| oXald 10 <| oIst 4 <| oAld 0 <| oGetR 2 1 <| oIld 3 <| oXald 10 <| oIst 5 <| oInc 3 2147483649 <| oNLC 4 2147483649 zgtN zleN zn1_gt zn1_le (jp 10) (jp 4)
theorem s_X2_reckon_3 (d : Nat) : zPb l G gh (d + 2) n_X2_reckon p_X2_reckon 21 b_X2_reckon_3 := fun K jp hj =>
    z_aload_n (n := 0) (i := 0) (zd (i := .aload_n 0) (n := 1) (by decide +kernel)) rfl <|
    z_getR (ci := 2) (j := 0) (idx := 11) (zd (i := .getfield 11) (n := 3) (by decide +kernel)) (by decide +kernel) (by decide +kernel) rfl g237 <|
    z_iload_n (n := 3) (i := 3) (zd (i := .iload_n 3) (n := 1) (by decide +kernel)) rfl <|
    z_iald (zd (i := .iaload) (n := 1) (by decide +kernel)) <|
    z_istore (i := 4) (zd (i := .istore 4) (n := 2) (by decide +kernel)) (by decide +kernel) <|
    z_aload_n (n := 0) (i := 0) (zd (i := .aload_n 0) (n := 1) (by decide +kernel)) rfl <|
    z_getR (ci := 2) (j := 1) (idx := 15) (zd (i := .getfield 15) (n := 3) (by decide +kernel)) (by decide +kernel) (by decide +kernel) rfl g238 <|
    z_iload_n (n := 3) (i := 3) (zd (i := .iload_n 3) (n := 1) (by decide +kernel)) rfl <|
    z_iald (zd (i := .iaload) (n := 1) (by decide +kernel)) <|
    z_istore (i := 5) (zd (i := .istore 5) (n := 2) (by decide +kernel)) (by decide +kernel) <|
    z_iinc (i := 3) (n := 1) (zd (i := .iinc 3 (1)) (n := 3) (by decide +kernel)) (by decide +kernel) (by decide +kernel) <|
    z_nLC_gt (i := 4) (c0 := 2147483649) (a1 := 2) (a2 := 1) (off := 39) (tgt := 82) (zLd_w (i := 4) (zd (i := .iload 4) (n := 2) (by decide +kernel))) (zCn_c (n := 1) (zd (i := .iconst (1)) (n := 1) (by decide +kernel)) (by decide +kernel)) (zd (i := .if_icmp .gt (39)) (n := 3) (by decide +kernel)) (by decide +kernel) (zj (hj 10) (by decide +kernel)) (zj (hj 4) (by decide +kernel))
noncomputable def b_X2_reckon_4 : zBl := fun jp K => oNLC 2 2147483668 zltN zgeN zn1_lt zn1_ge (jp 6) (jp 5)
theorem s_X2_reckon_4 (d : Nat) : zPb l G gh (d + 2) n_X2_reckon p_X2_reckon 46 b_X2_reckon_4 := fun K jp hj =>
    z_nLC_lt (i := 2) (c0 := 2147483668) (a1 := 1) (a2 := 2) (off := 5) (tgt := 54) (zLd_n (n := 2) (i := 2) (zd (i := .iload_n 2) (n := 1) (by decide +kernel)) rfl) (zCn_b (n := 20) (zd (i := .bipush (20)) (n := 2) (by decide +kernel)) (by decide +kernel)) (zd (i := .if_icmp .lt (5)) (n := 3) (by decide +kernel)) (by decide +kernel) (zj (hj 6) (by decide +kernel)) (zj (hj 5) (by decide +kernel))
noncomputable def b_X2_reckon_5 : zBl := fun jp K => oInt 2147483648 <| oIret K
theorem s_X2_reckon_5 (d : Nat) : zPb l G gh (d + 2) n_X2_reckon p_X2_reckon 52 b_X2_reckon_5 := fun K jp hj =>
    z_iconst (n := 0) (zd (i := .iconst (0)) (n := 1) (by decide +kernel)) (by decide +kernel) <|
    z_iret (zd (i := .ireturn) (n := 1) (by decide +kernel)) rfl
noncomputable def b_X2_reckon_6 : zBl := fun jp K => oAld 0 <| oGetR 2 5 <| oIld 2 <| oNLC 4 2147483648 zneN zeqN zn1_ne zn1_eq (jp 8) (jp 7)
theorem s_X2_reckon_6 (d : Nat) : zPb l G gh (d + 2) n_X2_reckon p_X2_reckon 54 b_X2_reckon_6 := fun K jp hj =>
    z_aload_n (n := 0) (i := 0) (zd (i := .aload_n 0) (n := 1) (by decide +kernel)) rfl <|
    z_getR (ci := 2) (j := 5) (idx := 28) (zd (i := .getfield 28) (n := 3) (by decide +kernel)) (by decide +kernel) (by decide +kernel) rfl g242 <|
    z_iload_n (n := 2) (i := 2) (zd (i := .iload_n 2) (n := 1) (by decide +kernel)) rfl <|
    z_nL0_ne (i := 4) (a1 := 2) (off := 8) (tgt := 69) (zLd_w (i := 4) (zd (i := .iload 4) (n := 2) (by decide +kernel))) (zd (i := .ifCond .ne (8)) (n := 3) (by decide +kernel)) (by decide +kernel) (zj (hj 8) (by decide +kernel)) (zj (hj 7) (by decide +kernel))
noncomputable def b_X2_reckon_7 : zBl := fun jp K => oIld 5 <| jp 9
theorem s_X2_reckon_7 (d : Nat) : zPb l G gh (d + 2) n_X2_reckon p_X2_reckon 64 b_X2_reckon_7 := fun K jp hj =>
    z_iload (i := 5) (zd (i := .iload 5) (n := 2) (by decide +kernel)) <|
    z_goto (off := 9) (tgt := 75) (zd (i := .goto (9)) (n := 3) (by decide +kernel)) (by decide +kernel) (zj (hj 9) (by decide +kernel))
noncomputable def b_X2_reckon_8 : zBl := fun jp K => oAld 0 <| oIld 5 <| oCv 2 1 f_X2_variable <| jp 9
theorem s_X2_reckon_8 (d : Nat) : zPb l G gh (d + 2) n_X2_reckon p_X2_reckon 69 b_X2_reckon_8 := fun K jp hj =>
    z_aload_n (n := 0) (i := 0) (zd (i := .aload_n 0) (n := 1) (by decide +kernel)) rfl <|
    z_iload (i := 5) (zd (i := .iload 5) (n := 2) (by decide +kernel)) <|
    z_callV (idx := 67) (ci := 2) (N := n_X2_variable) (zd (i := .invokevirtual 67) (n := 3) (by decide +kernel)) to_X2_variable g732 g734 g21 (by decide +kernel) rfl rfl rfl (c_X2_variable (l := l) (G := G) (gh := gh) (d)) <|
    (zj (hj 9) (by decide +kernel))
noncomputable def b_X2_reckon_9 : zBl := fun jp K => oXast 10 zid <| oInc 2 2147483649 <| jp 25
theorem s_X2_reckon_9 (d : Nat) : zPb l G gh (d + 2) n_X2_reckon p_X2_reckon 75 b_X2_reckon_9 := fun K jp hj =>
    z_iast (zd (i := .iastore) (n := 1) (by decide +kernel)) <|
    z_iinc (i := 2) (n := 1) (zd (i := .iinc 2 (1)) (n := 3) (by decide +kernel)) (by decide +kernel) (by decide +kernel) <|
    z_goto (off := 120) (tgt := 199) (zd (i := .goto (120)) (n := 3) (by decide +kernel)) (by decide +kernel) (zj (hj 25) (by decide +kernel))
noncomputable def b_X2_reckon_10 : zBl := fun jp K => oNLC 4 2147483655 zneN zeqN zn1_ne zn1_eq (jp 15) (jp 11)
theorem s_X2_reckon_10 (d : Nat) : zPb l G gh (d + 2) n_X2_reckon p_X2_reckon 82 b_X2_reckon_10 := fun K jp hj =>
    z_nLC_ne (i := 4) (c0 := 2147483655) (a1 := 2) (a2 := 2) (off := 20) (tgt := 106) (zLd_w (i := 4) (zd (i := .iload 4) (n := 2) (by decide +kernel))) (zCn_b (n := 7) (zd (i := .bipush (7)) (n := 2) (by decide +kernel)) (by decide +kernel)) (zd (i := .if_icmp .ne (20)) (n := 3) (by decide +kernel)) (by decide +kernel) (zj (hj 15) (by decide +kernel)) (zj (hj 11) (by decide +kernel))
noncomputable def b_X2_reckon_11 : zBl := fun jp K => oNLC 2 2147483648 zleN zgtN zn1_le zn1_gt (jp 13) (jp 12)
theorem s_X2_reckon_11 (d : Nat) : zPb l G gh (d + 2) n_X2_reckon p_X2_reckon 89 b_X2_reckon_11 := fun K jp hj =>
    z_nL0_le (i := 2) (a1 := 1) (off := 14) (tgt := 104) (zLd_n (n := 2) (i := 2) (zd (i := .iload_n 2) (n := 1) (by decide +kernel)) rfl) (zd (i := .ifCond .le (14)) (n := 3) (by decide +kernel)) (by decide +kernel) (zj (hj 13) (by decide +kernel)) (zj (hj 12) (by decide +kernel))
noncomputable def b_X2_reckon_12 : zBl := fun jp K => oAld 0 <| oGetR 2 5 <| oIld 2 <| oInt 2147483649 <| oB2 zsub <| oXald 10 <| jp 14
theorem s_X2_reckon_12 (d : Nat) : zPb l G gh (d + 2) n_X2_reckon p_X2_reckon 93 b_X2_reckon_12 := fun K jp hj =>
    z_aload_n (n := 0) (i := 0) (zd (i := .aload_n 0) (n := 1) (by decide +kernel)) rfl <|
    z_getR (ci := 2) (j := 5) (idx := 28) (zd (i := .getfield 28) (n := 3) (by decide +kernel)) (by decide +kernel) (by decide +kernel) rfl g242 <|
    z_iload_n (n := 2) (i := 2) (zd (i := .iload_n 2) (n := 1) (by decide +kernel)) rfl <|
    z_iconst (n := 1) (zd (i := .iconst (1)) (n := 1) (by decide +kernel)) (by decide +kernel) <|
    z_isub (zd (i := .isub) (n := 1) (by decide +kernel)) <|
    z_iald (zd (i := .iaload) (n := 1) (by decide +kernel)) <|
    z_goto (off := 4) (tgt := 105) (zd (i := .goto (4)) (n := 3) (by decide +kernel)) (by decide +kernel) (zj (hj 14) (by decide +kernel))
noncomputable def b_X2_reckon_13 : zBl := fun jp K => oInt 2147483648 <| jp 14
theorem s_X2_reckon_13 (d : Nat) : zPb l G gh (d + 2) n_X2_reckon p_X2_reckon 104 b_X2_reckon_13 := fun K jp hj =>
    z_iconst (n := 0) (zd (i := .iconst (0)) (n := 1) (by decide +kernel)) (by decide +kernel) <|
    (zj (hj 14) (by decide +kernel))
noncomputable def b_X2_reckon_14 : zBl := fun jp K => oIret K
theorem s_X2_reckon_14 (d : Nat) : zPb l G gh (d + 2) n_X2_reckon p_X2_reckon 105 b_X2_reckon_14 := fun K jp hj =>
    z_iret (zd (i := .ireturn) (n := 1) (by decide +kernel)) rfl
noncomputable def b_X2_reckon_15 : zBl := fun jp K => oNLC 2 2147483650 zltN zgeN zn1_lt zn1_ge (jp 18) (jp 16)
theorem s_X2_reckon_15 (d : Nat) : zPb l G gh (d + 2) n_X2_reckon p_X2_reckon 106 b_X2_reckon_15 := fun K jp hj =>
    z_nLC_lt (i := 2) (c0 := 2147483650) (a1 := 1) (a2 := 1) (off := 20) (tgt := 128) (zLd_n (n := 2) (i := 2) (zd (i := .iload_n 2) (n := 1) (by decide +kernel)) rfl) (zCn_c (n := 2) (zd (i := .iconst (2)) (n := 1) (by decide +kernel)) (by decide +kernel)) (zd (i := .if_icmp .lt (20)) (n := 3) (by decide +kernel)) (by decide +kernel) (zj (hj 18) (by decide +kernel)) (zj (hj 16) (by decide +kernel))
noncomputable def b_X2_reckon_16 : zBl := fun jp K => oNLC 4 2147483653 zneN zeqN zn1_ne zn1_eq (jp 19) (jp 17)
theorem s_X2_reckon_16 (d : Nat) : zPb l G gh (d + 2) n_X2_reckon p_X2_reckon 111 b_X2_reckon_16 := fun K jp hj =>
    z_nLC_ne (i := 4) (c0 := 2147483653) (a1 := 2) (a2 := 1) (off := 16) (tgt := 130) (zLd_w (i := 4) (zd (i := .iload 4) (n := 2) (by decide +kernel))) (zCn_c (n := 5) (zd (i := .iconst (5)) (n := 1) (by decide +kernel)) (by decide +kernel)) (zd (i := .if_icmp .ne (16)) (n := 3) (by decide +kernel)) (by decide +kernel) (zj (hj 19) (by decide +kernel)) (zj (hj 17) (by decide +kernel))
noncomputable def b_X2_reckon_17 : zBl := fun jp K => oAld 0 <| oGetR 2 5 <| oIld 2 <| oInt 2147483649 <| oB2 zsub <| oXald 10 <| oIf zne zeq (jp 19) (jp 18)
theorem s_X2_reckon_17 (d : Nat) : zPb l G gh (d + 2) n_X2_reckon p_X2_reckon 117 b_X2_reckon_17 := fun K jp hj =>
    z_aload_n (n := 0) (i := 0) (zd (i := .aload_n 0) (n := 1) (by decide +kernel)) rfl <|
    z_getR (ci := 2) (j := 5) (idx := 28) (zd (i := .getfield 28) (n := 3) (by decide +kernel)) (by decide +kernel) (by decide +kernel) rfl g242 <|
    z_iload_n (n := 2) (i := 2) (zd (i := .iload_n 2) (n := 1) (by decide +kernel)) rfl <|
    z_iconst (n := 1) (zd (i := .iconst (1)) (n := 1) (by decide +kernel)) (by decide +kernel) <|
    z_isub (zd (i := .isub) (n := 1) (by decide +kernel)) <|
    z_iald (zd (i := .iaload) (n := 1) (by decide +kernel)) <|
    z_if_ne (off := 5) (tgt := 130) (zd (i := .ifCond .ne (5)) (n := 3) (by decide +kernel)) (by decide +kernel) (zj (hj 19) (by decide +kernel)) (zj (hj 18) (by decide +kernel))
noncomputable def b_X2_reckon_18 : zBl := fun jp K => oInt 2147483648 <| oIret K
theorem s_X2_reckon_18 (d : Nat) : zPb l G gh (d + 2) n_X2_reckon p_X2_reckon 128 b_X2_reckon_18 := fun K jp hj =>
    z_iconst (n := 0) (zd (i := .iconst (0)) (n := 1) (by decide +kernel)) (by decide +kernel) <|
    z_iret (zd (i := .ireturn) (n := 1) (by decide +kernel)) rfl
noncomputable def b_X2_reckon_19 : zBl := fun jp K => oInc 2 2147483646 <| oNLC 4 2147483654 zneN zeqN zn1_ne zn1_eq (jp 24) (jp 20)
theorem s_X2_reckon_19 (d : Nat) : zPb l G gh (d + 2) n_X2_reckon p_X2_reckon 130 b_X2_reckon_19 := fun K jp hj =>
    z_iinc (i := 2) (n := -2) (zd (i := .iinc 2 (-2)) (n := 3) (by decide +kernel)) (by decide +kernel) (by decide +kernel) <|
    z_nLC_ne (i := 4) (c0 := 2147483654) (a1 := 2) (a2 := 2) (off := 34) (tgt := 171) (zLd_w (i := 4) (zd (i := .iload 4) (n := 2) (by decide +kernel))) (zCn_b (n := 6) (zd (i := .bipush (6)) (n := 2) (by decide +kernel)) (by decide +kernel)) (zd (i := .if_icmp .ne (34)) (n := 3) (by decide +kernel)) (by decide +kernel) (zj (hj 24) (by decide +kernel)) (zj (hj 20) (by decide +kernel))
noncomputable def b_X2_reckon_20 : zBl := fun jp K => oAld 0 <| oGetR 2 5 <| oIld 2 <| oXald 10 <| oAld 0 <| oGetR 2 5 <| oIld 2 <| oInt 2147483649 <| oB2 zadd <| oXald 10 <| oIc zge zlt (jp 22) (jp 21)
theorem s_X2_reckon_20 (d : Nat) : zPb l G gh (d + 2) n_X2_reckon p_X2_reckon 140 b_X2_reckon_20 := fun K jp hj =>
    z_aload_n (n := 0) (i := 0) (zd (i := .aload_n 0) (n := 1) (by decide +kernel)) rfl <|
    z_getR (ci := 2) (j := 5) (idx := 28) (zd (i := .getfield 28) (n := 3) (by decide +kernel)) (by decide +kernel) (by decide +kernel) rfl g242 <|
    z_iload_n (n := 2) (i := 2) (zd (i := .iload_n 2) (n := 1) (by decide +kernel)) rfl <|
    z_iald (zd (i := .iaload) (n := 1) (by decide +kernel)) <|
    z_aload_n (n := 0) (i := 0) (zd (i := .aload_n 0) (n := 1) (by decide +kernel)) rfl <|
    z_getR (ci := 2) (j := 5) (idx := 28) (zd (i := .getfield 28) (n := 3) (by decide +kernel)) (by decide +kernel) (by decide +kernel) rfl g242 <|
    z_iload_n (n := 2) (i := 2) (zd (i := .iload_n 2) (n := 1) (by decide +kernel)) rfl <|
    z_iconst (n := 1) (zd (i := .iconst (1)) (n := 1) (by decide +kernel)) (by decide +kernel) <|
    z_iadd (zd (i := .iadd) (n := 1) (by decide +kernel)) <|
    z_iald (zd (i := .iaload) (n := 1) (by decide +kernel)) <|
    z_icmp_ge (off := 7) (tgt := 161) (zd (i := .if_icmp .ge (7)) (n := 3) (by decide +kernel)) (by decide +kernel) (zj (hj 22) (by decide +kernel)) (zj (hj 21) (by decide +kernel))
noncomputable def b_X2_reckon_21 : zBl := fun jp K => oIld 3 <| jp 23
theorem s_X2_reckon_21 (d : Nat) : zPb l G gh (d + 2) n_X2_reckon p_X2_reckon 157 b_X2_reckon_21 := fun K jp hj =>
    z_iload_n (n := 3) (i := 3) (zd (i := .iload_n 3) (n := 1) (by decide +kernel)) rfl <|
    z_goto (off := 9) (tgt := 167) (zd (i := .goto (9)) (n := 3) (by decide +kernel)) (by decide +kernel) (zj (hj 23) (by decide +kernel))
noncomputable def b_X2_reckon_22 : zBl := fun jp K => oIld 3 <| oIld 5 <| oM2 zmax <| jp 23
theorem s_X2_reckon_22 (d : Nat) : zPb l G gh (d + 2) n_X2_reckon p_X2_reckon 161 b_X2_reckon_22 := fun K jp hj =>
    z_iload_n (n := 3) (i := 3) (zd (i := .iload_n 3) (n := 1) (by decide +kernel)) rfl <|
    z_iload (i := 5) (zd (i := .iload 5) (n := 2) (by decide +kernel)) <|
    z_max (idx := 70) (zd (i := .invokestatic 70) (n := 3) (by decide +kernel)) g736 g575 g111 g576 <|
    (zj (hj 23) (by decide +kernel))
noncomputable def b_X2_reckon_23 : zBl := fun jp K => oIst 3 <| jp 25
theorem s_X2_reckon_23 (d : Nat) : zPb l G gh (d + 2) n_X2_reckon p_X2_reckon 167 b_X2_reckon_23 := fun K jp hj =>
    z_istore_n (n := 3) (i := 3) (zd (i := .istore_n 3) (n := 1) (by decide +kernel)) rfl (by decide +kernel) <|
    z_goto (off := 31) (tgt := 199) (zd (i := .goto (31)) (n := 3) (by decide +kernel)) (by decide +kernel) (zj (hj 25) (by decide +kernel))
noncomputable def b_X2_reckon_24 : zBl := fun jp K => oAld 0 <| oGetR 2 5 <| oIld 2 <| oIld 4 <| oAld 0 <| oGetR 2 5 <| oIld 2 <| oXald 10 <| oAld 0 <| oGetR 2 5 <| oIld 2 <| oInt 2147483649 <| oB2 zadd <| oXald 10 <| oCs 3 f_X2_joined <| oXast 10 zid <| oInc 2 2147483649 <| jp 25
theorem s_X2_reckon_24 (d : Nat) : zPb l G gh (d + 2) n_X2_reckon p_X2_reckon 171 b_X2_reckon_24 := fun K jp hj =>
    z_aload_n (n := 0) (i := 0) (zd (i := .aload_n 0) (n := 1) (by decide +kernel)) rfl <|
    z_getR (ci := 2) (j := 5) (idx := 28) (zd (i := .getfield 28) (n := 3) (by decide +kernel)) (by decide +kernel) (by decide +kernel) rfl g242 <|
    z_iload_n (n := 2) (i := 2) (zd (i := .iload_n 2) (n := 1) (by decide +kernel)) rfl <|
    z_iload (i := 4) (zd (i := .iload 4) (n := 2) (by decide +kernel)) <|
    z_aload_n (n := 0) (i := 0) (zd (i := .aload_n 0) (n := 1) (by decide +kernel)) rfl <|
    z_getR (ci := 2) (j := 5) (idx := 28) (zd (i := .getfield 28) (n := 3) (by decide +kernel)) (by decide +kernel) (by decide +kernel) rfl g242 <|
    z_iload_n (n := 2) (i := 2) (zd (i := .iload_n 2) (n := 1) (by decide +kernel)) rfl <|
    z_iald (zd (i := .iaload) (n := 1) (by decide +kernel)) <|
    z_aload_n (n := 0) (i := 0) (zd (i := .aload_n 0) (n := 1) (by decide +kernel)) rfl <|
    z_getR (ci := 2) (j := 5) (idx := 28) (zd (i := .getfield 28) (n := 3) (by decide +kernel)) (by decide +kernel) (by decide +kernel) rfl g242 <|
    z_iload_n (n := 2) (i := 2) (zd (i := .iload_n 2) (n := 1) (by decide +kernel)) rfl <|
    z_iconst (n := 1) (zd (i := .iconst (1)) (n := 1) (by decide +kernel)) (by decide +kernel) <|
    z_iadd (zd (i := .iadd) (n := 1) (by decide +kernel)) <|
    z_iald (zd (i := .iaload) (n := 1) (by decide +kernel)) <|
    z_callS (idx := 73) (N := n_X2_joined) (zd (i := .invokestatic 73) (n := 3) (by decide +kernel)) to_X2_joined g737 g738 rfl rfl (c_X2_joined (l := l) (G := G) (gh := gh) (d)) <|
    z_iast (zd (i := .iastore) (n := 1) (by decide +kernel)) <|
    z_iinc (i := 2) (n := 1) (zd (i := .iinc 2 (1)) (n := 3) (by decide +kernel)) (by decide +kernel) (by decide +kernel) <|
    (zj (hj 25) (by decide +kernel))
noncomputable def b_X2_reckon_25 : zBl := fun jp K => jp 1
theorem s_X2_reckon_25 (d : Nat) : zPb l G gh (d + 2) n_X2_reckon p_X2_reckon 199 b_X2_reckon_25 := fun K jp hj =>
    z_goto (off := -190) (tgt := 9) (zd (i := .goto (-190)) (n := 3) (by decide +kernel)) (by decide +kernel) (zj (hj 1) (by decide +kernel))
noncomputable def b_X2_reckon_26 : zBl := fun jp K => oInt 2147483648 <| oIret K
theorem s_X2_reckon_26 (d : Nat) : zPb l G gh (d + 2) n_X2_reckon p_X2_reckon 202 b_X2_reckon_26 := fun K jp hj =>
    z_iconst (n := 0) (zd (i := .iconst (0)) (n := 1) (by decide +kernel)) (by decide +kernel) <|
    z_iret (zd (i := .ireturn) (n := 1) (by decide +kernel)) rfl
noncomputable def t_X2_reckon : List zBl := [b_X2_reckon_0, b_X2_reckon_1, b_X2_reckon_2, b_X2_reckon_3, b_X2_reckon_4, b_X2_reckon_5, b_X2_reckon_6, b_X2_reckon_7, b_X2_reckon_8, b_X2_reckon_9, b_X2_reckon_10, b_X2_reckon_11, b_X2_reckon_12, b_X2_reckon_13, b_X2_reckon_14, b_X2_reckon_15, b_X2_reckon_16, b_X2_reckon_17, b_X2_reckon_18, b_X2_reckon_19, b_X2_reckon_20, b_X2_reckon_21, b_X2_reckon_22, b_X2_reckon_23, b_X2_reckon_24, b_X2_reckon_25, b_X2_reckon_26]
theorem tt_X2_reckon (d : Nat) : zT (zPb l G gh (d + 2) n_X2_reckon p_X2_reckon) t_X2_reckon p_X2_reckon := ⟨s_X2_reckon_0 d, s_X2_reckon_1 d, s_X2_reckon_2 d, s_X2_reckon_3 d, s_X2_reckon_4 d, s_X2_reckon_5 d, s_X2_reckon_6 d, s_X2_reckon_7 d, s_X2_reckon_8 d, s_X2_reckon_9 d, s_X2_reckon_10 d, s_X2_reckon_11 d, s_X2_reckon_12 d, s_X2_reckon_13 d, s_X2_reckon_14 d, s_X2_reckon_15 d, s_X2_reckon_16 d, s_X2_reckon_17 d, s_X2_reckon_18 d, s_X2_reckon_19 d, s_X2_reckon_20 d, s_X2_reckon_21 d, s_X2_reckon_22 d, s_X2_reckon_23 d, s_X2_reckon_24 d, s_X2_reckon_25 d, s_X2_reckon_26 d, trivial⟩
def q_X2_reckon_0 : List (Nat × Nat) := [(265, zk14), (266, zk33), (267, zk33), (268, zk34), (269, zk15), (270, zk19)]
noncomputable def al_X2_reckon_0 : zAq := [(some (.inl 8589934591), [(265, zk14), (266, zk33), (267, zk33), (268, zk34), (269, zk15), (270, zk21)])]
def mq_X2_reckon_0_1 : List (Nat × Nat) := [(265, zk14), (266, zk33), (267, zk33), (268, zk34), (269, zk15), (270, zk21)]
noncomputable def fm_X2_reckon_0 : List zFm := [(0, [], (fun vs => [.inr (.ref 265), .inl 9223372043297226756]), (fun vs => zP q_X2_reckon_0), (fun vs => Nat.sub (Nat.add 420 0) 0)),
  (3, [(3, 2147483648, 2147484067)], (fun vs => [.inr (.ref 265), .inl 9223372043297226756, .inl 9223372043297226772, .inl (zmkc (zn 0 vs 0) 2147484067)]), (fun vs => zP mq_X2_reckon_0_1), (fun vs => Nat.sub (Nat.add 2147484067 0) (Nat.add 0 (Nat.mul 1 (zn 0 vs 0)))))]
def bf_X2_reckon_0 : List Nat := [0, 0, 0, 2]
theorem r_X2_reckon_0_0 : zbox [] (fun vs => zFrun (zpost (zAlq al_X2_reckon_0)) 1000 t_X2_reckon fm_X2_reckon_0 bf_X2_reckon_0 (0, vs)) = true := by decide +kernel
theorem r_X2_reckon_0_1 : zbox [(3, 2147483648, 2147484067)] (fun vs => zFrun (zpost (zAlq al_X2_reckon_0)) 1000 t_X2_reckon fm_X2_reckon_0 bf_X2_reckon_0 (1, vs)) = true := by decide +kernel
set_option maxRecDepth 100000 in
theorem x_X2_reckon_0 (d : Nat) : zS l G gh (d + 2) (zpost (zAlq al_X2_reckon_0)) n_X2_reckon (zn 0 p_X2_reckon 0) (zwc (0, [.inr (.ref 265), .inl 9223372043297226756], zP q_X2_reckon_0) 0) := zentry (tt_X2_reckon d) fm_X2_reckon_0 bf_X2_reckon_0 1000 (by decide +kernel) rfl ⟨Nat.zero_lt_succ _, trivial⟩ (fun f hf => match f, hf with
  | 0, _ => fun vs hv => (zbox_t r_X2_reckon_0_0) vs hv
  | 1, _ => fun vs hv => (zbox_t r_X2_reckon_0_1) vs hv
  | f + 2, h => absurd (show f + 2 < 2 from h) (Nat.not_lt.mpr (Nat.le_add_left 2 f)))
noncomputable def gs_X2_reckon_0 : zMt := zgq false [] 6 [.inr (.ref 265), .inl 9223372043297226756] q_X2_reckon_0 al_X2_reckon_0
set_option maxRecDepth 100000 in
theorem cs_X2_reckon_0 (d : Nat) : zC l G gh (d + 2) n_X2_reckon gs_X2_reckon_0 := zgq_ok0 (pcs := p_X2_reckon) (by decide) rfl rfl (fun a ha => by simp only [al_X2_reckon_0, List.mem_cons, List.not_mem_nil, or_false] at ha; rcases ha with rfl <;> decide +kernel) (fun gh => x_X2_reckon_0 d) (by decide +kernel)
def q_X2_reckon_1 : List (Nat × Nat) := [(15, zk17), (16, zk33), (17, zk33), (18, zk34), (19, zk15), (20, zk19)]
noncomputable def al_X2_reckon_1 : zAq := [(some (.inl 8589934591), [(15, zk17), (16, zk33), (17, zk33), (18, zk34), (19, zk15), (20, zk21)])]
def mq_X2_reckon_1_1 : List (Nat × Nat) := [(15, zk17), (16, zk33), (17, zk33), (18, zk34), (19, zk15), (20, zk21)]
noncomputable def fm_X2_reckon_1 : List zFm := [(0, [], (fun vs => [.inr (.ref 15), .inl 9223372043297226756]), (fun vs => zP q_X2_reckon_1), (fun vs => Nat.sub (Nat.add 420 0) 0)),
  (3, [(3, 2147483648, 2147484067)], (fun vs => [.inr (.ref 15), .inl 9223372043297226756, .inl 9223372043297226772, .inl (zmkc (zn 0 vs 0) 2147484067)]), (fun vs => zP mq_X2_reckon_1_1), (fun vs => Nat.sub (Nat.add 2147484067 0) (Nat.add 0 (Nat.mul 1 (zn 0 vs 0)))))]
def bf_X2_reckon_1 : List Nat := [0, 0, 0, 2]
theorem r_X2_reckon_1_0 : zbox [] (fun vs => zFrun (zpost (zAlq al_X2_reckon_1)) 1000 t_X2_reckon fm_X2_reckon_1 bf_X2_reckon_1 (0, vs)) = true := by decide +kernel
theorem r_X2_reckon_1_1 : zbox [(3, 2147483648, 2147484067)] (fun vs => zFrun (zpost (zAlq al_X2_reckon_1)) 1000 t_X2_reckon fm_X2_reckon_1 bf_X2_reckon_1 (1, vs)) = true := by decide +kernel
set_option maxRecDepth 100000 in
theorem x_X2_reckon_1 (d : Nat) : zS l G gh (d + 2) (zpost (zAlq al_X2_reckon_1)) n_X2_reckon (zn 0 p_X2_reckon 0) (zwc (0, [.inr (.ref 15), .inl 9223372043297226756], zP q_X2_reckon_1) 0) := zentry (tt_X2_reckon d) fm_X2_reckon_1 bf_X2_reckon_1 1000 (by decide +kernel) rfl ⟨Nat.zero_lt_succ _, trivial⟩ (fun f hf => match f, hf with
  | 0, _ => fun vs hv => (zbox_t r_X2_reckon_1_0) vs hv
  | 1, _ => fun vs hv => (zbox_t r_X2_reckon_1_1) vs hv
  | f + 2, h => absurd (show f + 2 < 2 from h) (Nat.not_lt.mpr (Nat.le_add_left 2 f)))
noncomputable def gs_X2_reckon_1 : zMt := zgq false [] 6 [.inr (.ref 15), .inl 9223372043297226756] q_X2_reckon_1 al_X2_reckon_1
set_option maxRecDepth 100000 in
theorem cs_X2_reckon_1 (d : Nat) : zC l G gh (d + 2) n_X2_reckon gs_X2_reckon_1 := zgq_ok0 (pcs := p_X2_reckon) (by decide) rfl rfl (fun a ha => by simp only [al_X2_reckon_1, List.mem_cons, List.not_mem_nil, or_false] at ha; rcases ha with rfl <;> decide +kernel) (fun gh => x_X2_reckon_1 d) (by decide +kernel)
noncomputable def gs_X2_reckon : zMt := (zor gs_X2_reckon_0 gs_X2_reckon_1)
theorem cs_X2_reckon (d : Nat) : zC l G gh (d + 2) n_X2_reckon gs_X2_reckon := (zor_ok (cs_X2_reckon_0 d) (cs_X2_reckon_1 d))
def n_X8_seatsThatLent : qMn := (yX8_seatsThatLent, cX8_seatsThatLent, 4, (some Jvm.ClassFile.FieldType.int), 0, 0)
theorem to_X8_seatsThatLent : qTo n_X8_seatsThatLent 1 := ⟨g763, g97, ⟨by decide, by decide, by decide +kernel⟩, by decide⟩
def p_X8_seatsThatLent : List Nat := [0, 4, 15, 31, 37, 43]
noncomputable def b_X8_seatsThatLent_0 : zBl := fun jp K => oInt 2147483648 <| oIst 2 <| oInt 2147483648 <| oIst 3 <| jp 1
theorem s_X8_seatsThatLent_0 (d : Nat) : zPb l G gh (d + 2) n_X8_seatsThatLent p_X8_seatsThatLent 0 b_X8_seatsThatLent_0 := fun K jp hj =>
    z_iconst (n := 0) (zd (i := .iconst (0)) (n := 1) (by decide +kernel)) (by decide +kernel) <|
    z_istore_n (n := 2) (i := 2) (zd (i := .istore_n 2) (n := 1) (by decide +kernel)) rfl (by decide +kernel) <|
    z_iconst (n := 0) (zd (i := .iconst (0)) (n := 1) (by decide +kernel)) (by decide +kernel) <|
    z_istore_n (n := 3) (i := 3) (zd (i := .istore_n 3) (n := 1) (by decide +kernel)) rfl (by decide +kernel) <|
    (zj (hj 1) (by decide +kernel))
noncomputable def b_X8_seatsThatLent_1 : zBl := fun jp K => oIld 3 <| oAld 0 <| oGetR 8 12 <| oGetI 0 5 <| oIc zge zlt (jp 5) (jp 2)
theorem s_X8_seatsThatLent_1 (d : Nat) : zPb l G gh (d + 2) n_X8_seatsThatLent p_X8_seatsThatLent 4 b_X8_seatsThatLent_1 := fun K jp hj =>
    z_iload_n (n := 3) (i := 3) (zd (i := .iload_n 3) (n := 1) (by decide +kernel)) rfl <|
    z_aload_n (n := 0) (i := 0) (zd (i := .aload_n 0) (n := 1) (by decide +kernel)) rfl <|
    z_getR (ci := 8) (j := 12) (idx := 71) (zd (i := .getfield 71) (n := 3) (by decide +kernel)) (by decide +kernel) (by decide +kernel) rfl g464 <|
    z_getI (ci := 0) (j := 5) (idx := 230) (zd (i := .getfield 230) (n := 3) (by decide +kernel)) (by decide +kernel) (by decide +kernel) rfl g288 <|
    z_icmp_ge (off := 31) (tgt := 43) (zd (i := .if_icmp .ge (31)) (n := 3) (by decide +kernel)) (by decide +kernel) (zj (hj 5) (by decide +kernel)) (zj (hj 2) (by decide +kernel))
noncomputable def b_X8_seatsThatLent_2 : zBl := fun jp K => oAld 0 <| oGetR 8 2 <| oGetR 4 5 <| oIld 3 <| oIld 1 <| oCs 2 f_X8_loanOf <| oXald 10 <| oIf zeq zne (jp 4) (jp 3)
theorem s_X8_seatsThatLent_2 (d : Nat) : zPb l G gh (d + 2) n_X8_seatsThatLent p_X8_seatsThatLent 15 b_X8_seatsThatLent_2 := fun K jp hj =>
    z_aload_n (n := 0) (i := 0) (zd (i := .aload_n 0) (n := 1) (by decide +kernel)) rfl <|
    z_getR (ci := 8) (j := 2) (idx := 26) (zd (i := .getfield 26) (n := 3) (by decide +kernel)) (by decide +kernel) (by decide +kernel) rfl g454 <|
    z_getR (ci := 4) (j := 5) (idx := 169) (zd (i := .getfield 169) (n := 3) (by decide +kernel)) (by decide +kernel) (by decide +kernel) rfl g383 <|
    z_iload_n (n := 3) (i := 3) (zd (i := .iload_n 3) (n := 1) (by decide +kernel)) rfl <|
    z_iload_n (n := 1) (i := 1) (zd (i := .iload_n 1) (n := 1) (by decide +kernel)) rfl <|
    z_callS (idx := 166) (N := n_X8_loanOf) (zd (i := .invokestatic 166) (n := 3) (by decide +kernel)) to_X8_loanOf g764 g765 rfl rfl (c_X8_loanOf (l := l) (G := G) (gh := gh) (d)) <|
    z_iald (zd (i := .iaload) (n := 1) (by decide +kernel)) <|
    z_if_eq (off := 9) (tgt := 37) (zd (i := .ifCond .eq (9)) (n := 3) (by decide +kernel)) (by decide +kernel) (zj (hj 4) (by decide +kernel)) (zj (hj 3) (by decide +kernel))
noncomputable def b_X8_seatsThatLent_3 : zBl := fun jp K => oIld 2 <| oInt 2147483649 <| oIld 3 <| oB2 zishl <| oB2 zior <| oIst 2 <| jp 4
theorem s_X8_seatsThatLent_3 (d : Nat) : zPb l G gh (d + 2) n_X8_seatsThatLent p_X8_seatsThatLent 31 b_X8_seatsThatLent_3 := fun K jp hj =>
    z_iload_n (n := 2) (i := 2) (zd (i := .iload_n 2) (n := 1) (by decide +kernel)) rfl <|
    z_iconst (n := 1) (zd (i := .iconst (1)) (n := 1) (by decide +kernel)) (by decide +kernel) <|
    z_iload_n (n := 3) (i := 3) (zd (i := .iload_n 3) (n := 1) (by decide +kernel)) rfl <|
    z_ishl (zd (i := .ishl) (n := 1) (by decide +kernel)) <|
    z_ior (zd (i := .ior) (n := 1) (by decide +kernel)) <|
    z_istore_n (n := 2) (i := 2) (zd (i := .istore_n 2) (n := 1) (by decide +kernel)) rfl (by decide +kernel) <|
    (zj (hj 4) (by decide +kernel))
noncomputable def b_X8_seatsThatLent_4 : zBl := fun jp K => oInc 3 2147483649 <| jp 1
theorem s_X8_seatsThatLent_4 (d : Nat) : zPb l G gh (d + 2) n_X8_seatsThatLent p_X8_seatsThatLent 37 b_X8_seatsThatLent_4 := fun K jp hj =>
    z_iinc (i := 3) (n := 1) (zd (i := .iinc 3 (1)) (n := 3) (by decide +kernel)) (by decide +kernel) (by decide +kernel) <|
    z_goto (off := -36) (tgt := 4) (zd (i := .goto (-36)) (n := 3) (by decide +kernel)) (by decide +kernel) (zj (hj 1) (by decide +kernel))
noncomputable def b_X8_seatsThatLent_5 : zBl := fun jp K => oIld 2 <| oIret K
theorem s_X8_seatsThatLent_5 (d : Nat) : zPb l G gh (d + 2) n_X8_seatsThatLent p_X8_seatsThatLent 43 b_X8_seatsThatLent_5 := fun K jp hj =>
    z_iload_n (n := 2) (i := 2) (zd (i := .iload_n 2) (n := 1) (by decide +kernel)) rfl <|
    z_iret (zd (i := .ireturn) (n := 1) (by decide +kernel)) rfl
noncomputable def t_X8_seatsThatLent : List zBl := [b_X8_seatsThatLent_0, b_X8_seatsThatLent_1, b_X8_seatsThatLent_2, b_X8_seatsThatLent_3, b_X8_seatsThatLent_4, b_X8_seatsThatLent_5]
theorem tt_X8_seatsThatLent (d : Nat) : zT (zPb l G gh (d + 2) n_X8_seatsThatLent p_X8_seatsThatLent) t_X8_seatsThatLent p_X8_seatsThatLent := ⟨s_X8_seatsThatLent_0 d, s_X8_seatsThatLent_1 d, s_X8_seatsThatLent_2 d, s_X8_seatsThatLent_3 d, s_X8_seatsThatLent_4 d, s_X8_seatsThatLent_5 d, trivial⟩
def q_X8_seatsThatLent_0 : List (Nat × Nat) := [(0, zk12), (21, zk22), (26, zk23), (259, zk8)]
noncomputable def al_X8_seatsThatLent_0 : zAq := [(some (.inl 9223372043297226815), [(0, zk12), (21, zk22), (26, zk23), (259, zk8)])]
noncomputable def fm_X8_seatsThatLent_0 : List zFm := [(0, [], (fun vs => [.inr (.ref 0), .inl 9223372043297226757]), (fun vs => zP q_X8_seatsThatLent_0), (fun vs => Nat.sub (Nat.add 7 0) 0)),
  (1, [(3, 2147483648, 2147483654)], (fun vs => [.inr (.ref 0), .inl 9223372043297226757, .inl 9223372043297226815, .inl (zn 0 vs 0)]), (fun vs => zP q_X8_seatsThatLent_0), (fun vs => Nat.sub (Nat.add 2147483654 0) (Nat.add 0 (Nat.mul 1 (zn 0 vs 0)))))]
def bf_X8_seatsThatLent_0 : List Nat := [0, 2]
theorem r_X8_seatsThatLent_0_0 : zbox [] (fun vs => zFrun (zpost (zAlq al_X8_seatsThatLent_0)) 1000 t_X8_seatsThatLent fm_X8_seatsThatLent_0 bf_X8_seatsThatLent_0 (0, vs)) = true := by decide +kernel
theorem r_X8_seatsThatLent_0_1 : zbox [(3, 2147483648, 2147483654)] (fun vs => zFrun (zpost (zAlq al_X8_seatsThatLent_0)) 1000 t_X8_seatsThatLent fm_X8_seatsThatLent_0 bf_X8_seatsThatLent_0 (1, vs)) = true := by decide +kernel
set_option maxRecDepth 100000 in
theorem x_X8_seatsThatLent_0 (d : Nat) : zS l G gh (d + 2) (zpost (zAlq al_X8_seatsThatLent_0)) n_X8_seatsThatLent (zn 0 p_X8_seatsThatLent 0) (zwc (0, [.inr (.ref 0), .inl 9223372043297226757], zP q_X8_seatsThatLent_0) 0) := zentry (tt_X8_seatsThatLent d) fm_X8_seatsThatLent_0 bf_X8_seatsThatLent_0 1000 (by decide +kernel) rfl ⟨Nat.zero_lt_succ _, trivial⟩ (fun f hf => match f, hf with
  | 0, _ => fun vs hv => (zbox_t r_X8_seatsThatLent_0_0) vs hv
  | 1, _ => fun vs hv => (zbox_t r_X8_seatsThatLent_0_1) vs hv
  | f + 2, h => absurd (show f + 2 < 2 from h) (Nat.not_lt.mpr (Nat.le_add_left 2 f)))
noncomputable def gs_X8_seatsThatLent_0 : zMt := zgq false [] 4 [.inr (.ref 0), .inl 9223372043297226757] q_X8_seatsThatLent_0 al_X8_seatsThatLent_0
set_option maxRecDepth 100000 in
theorem cs_X8_seatsThatLent_0 (d : Nat) : zC l G gh (d + 2) n_X8_seatsThatLent gs_X8_seatsThatLent_0 := zgq_ok0 (pcs := p_X8_seatsThatLent) (by decide) rfl rfl (fun a ha => by simp only [al_X8_seatsThatLent_0, List.mem_cons, List.not_mem_nil, or_false] at ha; rcases ha with rfl <;> decide +kernel) (fun gh => x_X8_seatsThatLent_0 d) (by decide +kernel)
def q_X8_seatsThatLent_1 : List (Nat × Nat) := [(0, zk13), (9, zk6), (21, zk22), (26, zk23)]
noncomputable def al_X8_seatsThatLent_1 : zAq := [(some (.inl 9223372043297226815), [(0, zk13), (9, zk6), (21, zk22), (26, zk23)])]
noncomputable def fm_X8_seatsThatLent_1 : List zFm := [(0, [], (fun vs => [.inr (.ref 0), .inl 9223372043297226757]), (fun vs => zP q_X8_seatsThatLent_1), (fun vs => Nat.sub (Nat.add 7 0) 0)),
  (1, [(3, 2147483648, 2147483654)], (fun vs => [.inr (.ref 0), .inl 9223372043297226757, .inl 9223372043297226815, .inl (zn 0 vs 0)]), (fun vs => zP q_X8_seatsThatLent_1), (fun vs => Nat.sub (Nat.add 2147483654 0) (Nat.add 0 (Nat.mul 1 (zn 0 vs 0)))))]
def bf_X8_seatsThatLent_1 : List Nat := [0, 2]
theorem r_X8_seatsThatLent_1_0 : zbox [] (fun vs => zFrun (zpost (zAlq al_X8_seatsThatLent_1)) 1000 t_X8_seatsThatLent fm_X8_seatsThatLent_1 bf_X8_seatsThatLent_1 (0, vs)) = true := by decide +kernel
theorem r_X8_seatsThatLent_1_1 : zbox [(3, 2147483648, 2147483654)] (fun vs => zFrun (zpost (zAlq al_X8_seatsThatLent_1)) 1000 t_X8_seatsThatLent fm_X8_seatsThatLent_1 bf_X8_seatsThatLent_1 (1, vs)) = true := by decide +kernel
set_option maxRecDepth 100000 in
theorem x_X8_seatsThatLent_1 (d : Nat) : zS l G gh (d + 2) (zpost (zAlq al_X8_seatsThatLent_1)) n_X8_seatsThatLent (zn 0 p_X8_seatsThatLent 0) (zwc (0, [.inr (.ref 0), .inl 9223372043297226757], zP q_X8_seatsThatLent_1) 0) := zentry (tt_X8_seatsThatLent d) fm_X8_seatsThatLent_1 bf_X8_seatsThatLent_1 1000 (by decide +kernel) rfl ⟨Nat.zero_lt_succ _, trivial⟩ (fun f hf => match f, hf with
  | 0, _ => fun vs hv => (zbox_t r_X8_seatsThatLent_1_0) vs hv
  | 1, _ => fun vs hv => (zbox_t r_X8_seatsThatLent_1_1) vs hv
  | f + 2, h => absurd (show f + 2 < 2 from h) (Nat.not_lt.mpr (Nat.le_add_left 2 f)))
noncomputable def gs_X8_seatsThatLent_1 : zMt := zgq false [] 4 [.inr (.ref 0), .inl 9223372043297226757] q_X8_seatsThatLent_1 al_X8_seatsThatLent_1
set_option maxRecDepth 100000 in
theorem cs_X8_seatsThatLent_1 (d : Nat) : zC l G gh (d + 2) n_X8_seatsThatLent gs_X8_seatsThatLent_1 := zgq_ok0 (pcs := p_X8_seatsThatLent) (by decide) rfl rfl (fun a ha => by simp only [al_X8_seatsThatLent_1, List.mem_cons, List.not_mem_nil, or_false] at ha; rcases ha with rfl <;> decide +kernel) (fun gh => x_X8_seatsThatLent_1 d) (by decide +kernel)
noncomputable def gs_X8_seatsThatLent : zMt := (zor gs_X8_seatsThatLent_0 gs_X8_seatsThatLent_1)
theorem cs_X8_seatsThatLent (d : Nat) : zC l G gh (d + 2) n_X8_seatsThatLent gs_X8_seatsThatLent := (zor_ok (cs_X8_seatsThatLent_0 d) (cs_X8_seatsThatLent_1 d))
def n_X8_thingsLentOn : qMn := (yX8_thingsLentOn, cX8_thingsLentOn, 4, (some Jvm.ClassFile.FieldType.int), 0, 0)
theorem to_X8_thingsLentOn : qTo n_X8_thingsLentOn 1 := ⟨g787, g97, ⟨by decide, by decide, by decide +kernel⟩, by decide⟩
def p_X8_thingsLentOn : List Nat := [0, 4, 15, 31, 37, 43]
noncomputable def b_X8_thingsLentOn_0 : zBl := fun jp K => oInt 2147483648 <| oIst 2 <| oInt 2147483648 <| oIst 3 <| jp 1
theorem s_X8_thingsLentOn_0 (d : Nat) : zPb l G gh (d + 2) n_X8_thingsLentOn p_X8_thingsLentOn 0 b_X8_thingsLentOn_0 := fun K jp hj =>
    z_iconst (n := 0) (zd (i := .iconst (0)) (n := 1) (by decide +kernel)) (by decide +kernel) <|
    z_istore_n (n := 2) (i := 2) (zd (i := .istore_n 2) (n := 1) (by decide +kernel)) rfl (by decide +kernel) <|
    z_iconst (n := 0) (zd (i := .iconst (0)) (n := 1) (by decide +kernel)) (by decide +kernel) <|
    z_istore_n (n := 3) (i := 3) (zd (i := .istore_n 3) (n := 1) (by decide +kernel)) rfl (by decide +kernel) <|
    (zj (hj 1) (by decide +kernel))
noncomputable def b_X8_thingsLentOn_1 : zBl := fun jp K => oIld 3 <| oAld 0 <| oGetR 8 12 <| oGetI 0 2 <| oIc zge zlt (jp 5) (jp 2)
theorem s_X8_thingsLentOn_1 (d : Nat) : zPb l G gh (d + 2) n_X8_thingsLentOn p_X8_thingsLentOn 4 b_X8_thingsLentOn_1 := fun K jp hj =>
    z_iload_n (n := 3) (i := 3) (zd (i := .iload_n 3) (n := 1) (by decide +kernel)) rfl <|
    z_aload_n (n := 0) (i := 0) (zd (i := .aload_n 0) (n := 1) (by decide +kernel)) rfl <|
    z_getR (ci := 8) (j := 12) (idx := 71) (zd (i := .getfield 71) (n := 3) (by decide +kernel)) (by decide +kernel) (by decide +kernel) rfl g464 <|
    z_getI (ci := 0) (j := 2) (idx := 236) (zd (i := .getfield 236) (n := 3) (by decide +kernel)) (by decide +kernel) (by decide +kernel) rfl g280 <|
    z_icmp_ge (off := 31) (tgt := 43) (zd (i := .if_icmp .ge (31)) (n := 3) (by decide +kernel)) (by decide +kernel) (zj (hj 5) (by decide +kernel)) (zj (hj 2) (by decide +kernel))
noncomputable def b_X8_thingsLentOn_2 : zBl := fun jp K => oAld 0 <| oGetR 8 2 <| oGetR 4 5 <| oIld 1 <| oIld 3 <| oCs 2 f_X8_loanOf <| oXald 10 <| oIf zeq zne (jp 4) (jp 3)
theorem s_X8_thingsLentOn_2 (d : Nat) : zPb l G gh (d + 2) n_X8_thingsLentOn p_X8_thingsLentOn 15 b_X8_thingsLentOn_2 := fun K jp hj =>
    z_aload_n (n := 0) (i := 0) (zd (i := .aload_n 0) (n := 1) (by decide +kernel)) rfl <|
    z_getR (ci := 8) (j := 2) (idx := 26) (zd (i := .getfield 26) (n := 3) (by decide +kernel)) (by decide +kernel) (by decide +kernel) rfl g454 <|
    z_getR (ci := 4) (j := 5) (idx := 169) (zd (i := .getfield 169) (n := 3) (by decide +kernel)) (by decide +kernel) (by decide +kernel) rfl g383 <|
    z_iload_n (n := 1) (i := 1) (zd (i := .iload_n 1) (n := 1) (by decide +kernel)) rfl <|
    z_iload_n (n := 3) (i := 3) (zd (i := .iload_n 3) (n := 1) (by decide +kernel)) rfl <|
    z_callS (idx := 166) (N := n_X8_loanOf) (zd (i := .invokestatic 166) (n := 3) (by decide +kernel)) to_X8_loanOf g764 g765 rfl rfl (c_X8_loanOf (l := l) (G := G) (gh := gh) (d)) <|
    z_iald (zd (i := .iaload) (n := 1) (by decide +kernel)) <|
    z_if_eq (off := 9) (tgt := 37) (zd (i := .ifCond .eq (9)) (n := 3) (by decide +kernel)) (by decide +kernel) (zj (hj 4) (by decide +kernel)) (zj (hj 3) (by decide +kernel))
noncomputable def b_X8_thingsLentOn_3 : zBl := fun jp K => oIld 2 <| oInt 2147483649 <| oIld 3 <| oB2 zishl <| oB2 zior <| oIst 2 <| jp 4
theorem s_X8_thingsLentOn_3 (d : Nat) : zPb l G gh (d + 2) n_X8_thingsLentOn p_X8_thingsLentOn 31 b_X8_thingsLentOn_3 := fun K jp hj =>
    z_iload_n (n := 2) (i := 2) (zd (i := .iload_n 2) (n := 1) (by decide +kernel)) rfl <|
    z_iconst (n := 1) (zd (i := .iconst (1)) (n := 1) (by decide +kernel)) (by decide +kernel) <|
    z_iload_n (n := 3) (i := 3) (zd (i := .iload_n 3) (n := 1) (by decide +kernel)) rfl <|
    z_ishl (zd (i := .ishl) (n := 1) (by decide +kernel)) <|
    z_ior (zd (i := .ior) (n := 1) (by decide +kernel)) <|
    z_istore_n (n := 2) (i := 2) (zd (i := .istore_n 2) (n := 1) (by decide +kernel)) rfl (by decide +kernel) <|
    (zj (hj 4) (by decide +kernel))
noncomputable def b_X8_thingsLentOn_4 : zBl := fun jp K => oInc 3 2147483649 <| jp 1
theorem s_X8_thingsLentOn_4 (d : Nat) : zPb l G gh (d + 2) n_X8_thingsLentOn p_X8_thingsLentOn 37 b_X8_thingsLentOn_4 := fun K jp hj =>
    z_iinc (i := 3) (n := 1) (zd (i := .iinc 3 (1)) (n := 3) (by decide +kernel)) (by decide +kernel) (by decide +kernel) <|
    z_goto (off := -36) (tgt := 4) (zd (i := .goto (-36)) (n := 3) (by decide +kernel)) (by decide +kernel) (zj (hj 1) (by decide +kernel))
noncomputable def b_X8_thingsLentOn_5 : zBl := fun jp K => oIld 2 <| oIret K
theorem s_X8_thingsLentOn_5 (d : Nat) : zPb l G gh (d + 2) n_X8_thingsLentOn p_X8_thingsLentOn 43 b_X8_thingsLentOn_5 := fun K jp hj =>
    z_iload_n (n := 2) (i := 2) (zd (i := .iload_n 2) (n := 1) (by decide +kernel)) rfl <|
    z_iret (zd (i := .ireturn) (n := 1) (by decide +kernel)) rfl
noncomputable def t_X8_thingsLentOn : List zBl := [b_X8_thingsLentOn_0, b_X8_thingsLentOn_1, b_X8_thingsLentOn_2, b_X8_thingsLentOn_3, b_X8_thingsLentOn_4, b_X8_thingsLentOn_5]
theorem tt_X8_thingsLentOn (d : Nat) : zT (zPb l G gh (d + 2) n_X8_thingsLentOn p_X8_thingsLentOn) t_X8_thingsLentOn p_X8_thingsLentOn := ⟨s_X8_thingsLentOn_0 d, s_X8_thingsLentOn_1 d, s_X8_thingsLentOn_2 d, s_X8_thingsLentOn_3 d, s_X8_thingsLentOn_4 d, s_X8_thingsLentOn_5 d, trivial⟩
def q_X8_thingsLentOn_0 : List (Nat × Nat) := [(0, zk12), (21, zk22), (26, zk23), (259, zk8)]
noncomputable def al_X8_thingsLentOn_0 : zAq := [(some (.inl 9223372043297226815), [(0, zk12), (21, zk22), (26, zk23), (259, zk8)])]
noncomputable def fm_X8_thingsLentOn_0 : List zFm := [(0, [], (fun vs => [.inr (.ref 0), .inl 9223372043297226757]), (fun vs => zP q_X8_thingsLentOn_0), (fun vs => Nat.sub (Nat.add 7 0) 0)),
  (1, [(3, 2147483648, 2147483654)], (fun vs => [.inr (.ref 0), .inl 9223372043297226757, .inl 9223372043297226815, .inl (zn 0 vs 0)]), (fun vs => zP q_X8_thingsLentOn_0), (fun vs => Nat.sub (Nat.add 2147483654 0) (Nat.add 0 (Nat.mul 1 (zn 0 vs 0)))))]
def bf_X8_thingsLentOn_0 : List Nat := [0, 2]
theorem r_X8_thingsLentOn_0_0 : zbox [] (fun vs => zFrun (zpost (zAlq al_X8_thingsLentOn_0)) 1000 t_X8_thingsLentOn fm_X8_thingsLentOn_0 bf_X8_thingsLentOn_0 (0, vs)) = true := by decide +kernel
theorem r_X8_thingsLentOn_0_1 : zbox [(3, 2147483648, 2147483654)] (fun vs => zFrun (zpost (zAlq al_X8_thingsLentOn_0)) 1000 t_X8_thingsLentOn fm_X8_thingsLentOn_0 bf_X8_thingsLentOn_0 (1, vs)) = true := by decide +kernel
set_option maxRecDepth 100000 in
theorem x_X8_thingsLentOn_0 (d : Nat) : zS l G gh (d + 2) (zpost (zAlq al_X8_thingsLentOn_0)) n_X8_thingsLentOn (zn 0 p_X8_thingsLentOn 0) (zwc (0, [.inr (.ref 0), .inl 9223372043297226757], zP q_X8_thingsLentOn_0) 0) := zentry (tt_X8_thingsLentOn d) fm_X8_thingsLentOn_0 bf_X8_thingsLentOn_0 1000 (by decide +kernel) rfl ⟨Nat.zero_lt_succ _, trivial⟩ (fun f hf => match f, hf with
  | 0, _ => fun vs hv => (zbox_t r_X8_thingsLentOn_0_0) vs hv
  | 1, _ => fun vs hv => (zbox_t r_X8_thingsLentOn_0_1) vs hv
  | f + 2, h => absurd (show f + 2 < 2 from h) (Nat.not_lt.mpr (Nat.le_add_left 2 f)))
noncomputable def gs_X8_thingsLentOn_0 : zMt := zgq false [] 4 [.inr (.ref 0), .inl 9223372043297226757] q_X8_thingsLentOn_0 al_X8_thingsLentOn_0
set_option maxRecDepth 100000 in
theorem cs_X8_thingsLentOn_0 (d : Nat) : zC l G gh (d + 2) n_X8_thingsLentOn gs_X8_thingsLentOn_0 := zgq_ok0 (pcs := p_X8_thingsLentOn) (by decide) rfl rfl (fun a ha => by simp only [al_X8_thingsLentOn_0, List.mem_cons, List.not_mem_nil, or_false] at ha; rcases ha with rfl <;> decide +kernel) (fun gh => x_X8_thingsLentOn_0 d) (by decide +kernel)
def q_X8_thingsLentOn_1 : List (Nat × Nat) := [(0, zk13), (9, zk6), (21, zk22), (26, zk23)]
noncomputable def al_X8_thingsLentOn_1 : zAq := [(some (.inl 9223372043297226815), [(0, zk13), (9, zk6), (21, zk22), (26, zk23)])]
noncomputable def fm_X8_thingsLentOn_1 : List zFm := [(0, [], (fun vs => [.inr (.ref 0), .inl 9223372043297226757]), (fun vs => zP q_X8_thingsLentOn_1), (fun vs => Nat.sub (Nat.add 7 0) 0)),
  (1, [(3, 2147483648, 2147483654)], (fun vs => [.inr (.ref 0), .inl 9223372043297226757, .inl 9223372043297226815, .inl (zn 0 vs 0)]), (fun vs => zP q_X8_thingsLentOn_1), (fun vs => Nat.sub (Nat.add 2147483654 0) (Nat.add 0 (Nat.mul 1 (zn 0 vs 0)))))]
def bf_X8_thingsLentOn_1 : List Nat := [0, 2]
theorem r_X8_thingsLentOn_1_0 : zbox [] (fun vs => zFrun (zpost (zAlq al_X8_thingsLentOn_1)) 1000 t_X8_thingsLentOn fm_X8_thingsLentOn_1 bf_X8_thingsLentOn_1 (0, vs)) = true := by decide +kernel
theorem r_X8_thingsLentOn_1_1 : zbox [(3, 2147483648, 2147483654)] (fun vs => zFrun (zpost (zAlq al_X8_thingsLentOn_1)) 1000 t_X8_thingsLentOn fm_X8_thingsLentOn_1 bf_X8_thingsLentOn_1 (1, vs)) = true := by decide +kernel
set_option maxRecDepth 100000 in
theorem x_X8_thingsLentOn_1 (d : Nat) : zS l G gh (d + 2) (zpost (zAlq al_X8_thingsLentOn_1)) n_X8_thingsLentOn (zn 0 p_X8_thingsLentOn 0) (zwc (0, [.inr (.ref 0), .inl 9223372043297226757], zP q_X8_thingsLentOn_1) 0) := zentry (tt_X8_thingsLentOn d) fm_X8_thingsLentOn_1 bf_X8_thingsLentOn_1 1000 (by decide +kernel) rfl ⟨Nat.zero_lt_succ _, trivial⟩ (fun f hf => match f, hf with
  | 0, _ => fun vs hv => (zbox_t r_X8_thingsLentOn_1_0) vs hv
  | 1, _ => fun vs hv => (zbox_t r_X8_thingsLentOn_1_1) vs hv
  | f + 2, h => absurd (show f + 2 < 2 from h) (Nat.not_lt.mpr (Nat.le_add_left 2 f)))
noncomputable def gs_X8_thingsLentOn_1 : zMt := zgq false [] 4 [.inr (.ref 0), .inl 9223372043297226757] q_X8_thingsLentOn_1 al_X8_thingsLentOn_1
set_option maxRecDepth 100000 in
theorem cs_X8_thingsLentOn_1 (d : Nat) : zC l G gh (d + 2) n_X8_thingsLentOn gs_X8_thingsLentOn_1 := zgq_ok0 (pcs := p_X8_thingsLentOn) (by decide) rfl rfl (fun a ha => by simp only [al_X8_thingsLentOn_1, List.mem_cons, List.not_mem_nil, or_false] at ha; rcases ha with rfl <;> decide +kernel) (fun gh => x_X8_thingsLentOn_1 d) (by decide +kernel)
noncomputable def gs_X8_thingsLentOn : zMt := (zor gs_X8_thingsLentOn_0 gs_X8_thingsLentOn_1)
theorem cs_X8_thingsLentOn (d : Nat) : zC l G gh (d + 2) n_X8_thingsLentOn gs_X8_thingsLentOn := (zor_ok (cs_X8_thingsLentOn_0 d) (cs_X8_thingsLentOn_1 d))
def n_X4_lentBy : qMn := (yX4_lentBy, cX4_lentBy, 4, (some Jvm.ClassFile.FieldType.int), 0, 0)
theorem to_X4_lentBy : qTo n_X4_lentBy 1 := ⟨g791, g107, ⟨by decide, by decide, by decide +kernel⟩, by decide⟩
def p_X4_lentBy : List Nat := [0, 4, 10, 29]
noncomputable def b_X4_lentBy_0 : zBl := fun jp K => oInt 2147483648 <| oIst 2 <| oInt 2147483648 <| oIst 3 <| jp 1
theorem s_X4_lentBy_0 (d : Nat) : zPb l G gh (d + 2) n_X4_lentBy p_X4_lentBy 0 b_X4_lentBy_0 := fun K jp hj =>
    z_iconst (n := 0) (zd (i := .iconst (0)) (n := 1) (by decide +kernel)) (by decide +kernel) <|
    z_istore_n (n := 2) (i := 2) (zd (i := .istore_n 2) (n := 1) (by decide +kernel)) rfl (by decide +kernel) <|
    z_iconst (n := 0) (zd (i := .iconst (0)) (n := 1) (by decide +kernel)) (by decide +kernel) <|
    z_istore_n (n := 3) (i := 3) (zd (i := .istore_n 3) (n := 1) (by decide +kernel)) rfl (by decide +kernel) <|
    (zj (hj 1) (by decide +kernel))
noncomputable def b_X4_lentBy_1 : zBl := fun jp K => oNLC 3 2147483654 zgeN zltN zn1_ge zn1_lt (jp 3) (jp 2)
theorem s_X4_lentBy_1 (d : Nat) : zPb l G gh (d + 2) n_X4_lentBy p_X4_lentBy 4 b_X4_lentBy_1 := fun K jp hj =>
    z_nLC_ge (i := 3) (c0 := 2147483654) (a1 := 1) (a2 := 2) (off := 22) (tgt := 29) (zLd_n (n := 3) (i := 3) (zd (i := .iload_n 3) (n := 1) (by decide +kernel)) rfl) (zCn_b (n := 6) (zd (i := .bipush (6)) (n := 2) (by decide +kernel)) (by decide +kernel)) (zd (i := .if_icmp .ge (22)) (n := 3) (by decide +kernel)) (by decide +kernel) (zj (hj 3) (by decide +kernel)) (zj (hj 2) (by decide +kernel))
noncomputable def b_X4_lentBy_2 : zBl := fun jp K => oIld 2 <| oAld 0 <| oGetR 4 5 <| oIld 1 <| oIld 3 <| oCs 2 f_X8_loanOf <| oXald 10 <| oB2 zadd <| oIst 2 <| oInc 3 2147483649 <| jp 1
theorem s_X4_lentBy_2 (d : Nat) : zPb l G gh (d + 2) n_X4_lentBy p_X4_lentBy 10 b_X4_lentBy_2 := fun K jp hj =>
    z_iload_n (n := 2) (i := 2) (zd (i := .iload_n 2) (n := 1) (by decide +kernel)) rfl <|
    z_aload_n (n := 0) (i := 0) (zd (i := .aload_n 0) (n := 1) (by decide +kernel)) rfl <|
    z_getR (ci := 4) (j := 5) (idx := 28) (zd (i := .getfield 28) (n := 3) (by decide +kernel)) (by decide +kernel) (by decide +kernel) rfl g382 <|
    z_iload_n (n := 1) (i := 1) (zd (i := .iload_n 1) (n := 1) (by decide +kernel)) rfl <|
    z_iload_n (n := 3) (i := 3) (zd (i := .iload_n 3) (n := 1) (by decide +kernel)) rfl <|
    z_callSN (idx := 59) (N := n_X8_loanOf) (host := "MirageLoans") (zd (i := .invokestatic 59) (n := 3) (by decide +kernel)) to_X8_loanOf (by decide +kernel) g765 rfl rfl (c_X8_loanOf (l := l) (G := G) (gh := gh) (d)) <|
    z_iald (zd (i := .iaload) (n := 1) (by decide +kernel)) <|
    z_iadd (zd (i := .iadd) (n := 1) (by decide +kernel)) <|
    z_istore_n (n := 2) (i := 2) (zd (i := .istore_n 2) (n := 1) (by decide +kernel)) rfl (by decide +kernel) <|
    z_iinc (i := 3) (n := 1) (zd (i := .iinc 3 (1)) (n := 3) (by decide +kernel)) (by decide +kernel) (by decide +kernel) <|
    z_goto (off := -22) (tgt := 4) (zd (i := .goto (-22)) (n := 3) (by decide +kernel)) (by decide +kernel) (zj (hj 1) (by decide +kernel))
noncomputable def b_X4_lentBy_3 : zBl := fun jp K => oIld 2 <| oIret K
theorem s_X4_lentBy_3 (d : Nat) : zPb l G gh (d + 2) n_X4_lentBy p_X4_lentBy 29 b_X4_lentBy_3 := fun K jp hj =>
    z_iload_n (n := 2) (i := 2) (zd (i := .iload_n 2) (n := 1) (by decide +kernel)) rfl <|
    z_iret (zd (i := .ireturn) (n := 1) (by decide +kernel)) rfl
noncomputable def t_X4_lentBy : List zBl := [b_X4_lentBy_0, b_X4_lentBy_1, b_X4_lentBy_2, b_X4_lentBy_3]
theorem tt_X4_lentBy (d : Nat) : zT (zPb l G gh (d + 2) n_X4_lentBy p_X4_lentBy) t_X4_lentBy p_X4_lentBy := ⟨s_X4_lentBy_0 d, s_X4_lentBy_1 d, s_X4_lentBy_2 d, s_X4_lentBy_3 d, trivial⟩
def q_X4_lentBy_0 : List (Nat × Nat) := [(21, zk22), (26, zk23)]
noncomputable def al_X4_lentBy_0 : zAq := [(some (.inl 8589934591), [(21, zk22), (26, zk23)])]
noncomputable def fm_X4_lentBy_0 : List zFm := [(0, [], (fun vs => [.inr (.ref 21), .inl 9223372043297226757]), (fun vs => zP q_X4_lentBy_0), (fun vs => Nat.sub (Nat.add 7 0) 0)),
  (1, [(3, 2147483648, 2147483654)], (fun vs => [.inr (.ref 21), .inl 9223372043297226757, .inl 8589934591, .inl (zn 0 vs 0)]), (fun vs => zP q_X4_lentBy_0), (fun vs => Nat.sub (Nat.add 2147483654 0) (Nat.add 0 (Nat.mul 1 (zn 0 vs 0)))))]
def bf_X4_lentBy_0 : List Nat := [0, 2]
theorem r_X4_lentBy_0_0 : zbox [] (fun vs => zFrun (zpost (zAlq al_X4_lentBy_0)) 1000 t_X4_lentBy fm_X4_lentBy_0 bf_X4_lentBy_0 (0, vs)) = true := by decide +kernel
theorem r_X4_lentBy_0_1 : zbox [(3, 2147483648, 2147483654)] (fun vs => zFrun (zpost (zAlq al_X4_lentBy_0)) 1000 t_X4_lentBy fm_X4_lentBy_0 bf_X4_lentBy_0 (1, vs)) = true := by decide +kernel
set_option maxRecDepth 100000 in
theorem x_X4_lentBy_0 (d : Nat) : zS l G gh (d + 2) (zpost (zAlq al_X4_lentBy_0)) n_X4_lentBy (zn 0 p_X4_lentBy 0) (zwc (0, [.inr (.ref 21), .inl 9223372043297226757], zP q_X4_lentBy_0) 0) := zentry (tt_X4_lentBy d) fm_X4_lentBy_0 bf_X4_lentBy_0 1000 (by decide +kernel) rfl ⟨Nat.zero_lt_succ _, trivial⟩ (fun f hf => match f, hf with
  | 0, _ => fun vs hv => (zbox_t r_X4_lentBy_0_0) vs hv
  | 1, _ => fun vs hv => (zbox_t r_X4_lentBy_0_1) vs hv
  | f + 2, h => absurd (show f + 2 < 2 from h) (Nat.not_lt.mpr (Nat.le_add_left 2 f)))
noncomputable def gs_X4_lentBy_0 : zMt := zgq false [] 4 [.inr (.ref 21), .inl 9223372043297226757] q_X4_lentBy_0 al_X4_lentBy_0
set_option maxRecDepth 100000 in
theorem cs_X4_lentBy_0 (d : Nat) : zC l G gh (d + 2) n_X4_lentBy gs_X4_lentBy_0 := zgq_ok0 (pcs := p_X4_lentBy) (by decide) rfl rfl (fun a ha => by simp only [al_X4_lentBy_0, List.mem_cons, List.not_mem_nil, or_false] at ha; rcases ha with rfl <;> decide +kernel) (fun gh => x_X4_lentBy_0 d) (by decide +kernel)
def q_X4_lentBy_1 : List (Nat × Nat) := [(28, zk32), (33, zk23)]
noncomputable def al_X4_lentBy_1 : zAq := [(some (.inl 8589934591), [(28, zk32), (33, zk23)])]
noncomputable def fm_X4_lentBy_1 : List zFm := [(0, [], (fun vs => [.inr (.ref 28), .inl 9223372043297226757]), (fun vs => zP q_X4_lentBy_1), (fun vs => Nat.sub (Nat.add 7 0) 0)),
  (1, [(3, 2147483648, 2147483654)], (fun vs => [.inr (.ref 28), .inl 9223372043297226757, .inl 8589934591, .inl (zn 0 vs 0)]), (fun vs => zP q_X4_lentBy_1), (fun vs => Nat.sub (Nat.add 2147483654 0) (Nat.add 0 (Nat.mul 1 (zn 0 vs 0)))))]
def bf_X4_lentBy_1 : List Nat := [0, 2]
theorem r_X4_lentBy_1_0 : zbox [] (fun vs => zFrun (zpost (zAlq al_X4_lentBy_1)) 1000 t_X4_lentBy fm_X4_lentBy_1 bf_X4_lentBy_1 (0, vs)) = true := by decide +kernel
theorem r_X4_lentBy_1_1 : zbox [(3, 2147483648, 2147483654)] (fun vs => zFrun (zpost (zAlq al_X4_lentBy_1)) 1000 t_X4_lentBy fm_X4_lentBy_1 bf_X4_lentBy_1 (1, vs)) = true := by decide +kernel
set_option maxRecDepth 100000 in
theorem x_X4_lentBy_1 (d : Nat) : zS l G gh (d + 2) (zpost (zAlq al_X4_lentBy_1)) n_X4_lentBy (zn 0 p_X4_lentBy 0) (zwc (0, [.inr (.ref 28), .inl 9223372043297226757], zP q_X4_lentBy_1) 0) := zentry (tt_X4_lentBy d) fm_X4_lentBy_1 bf_X4_lentBy_1 1000 (by decide +kernel) rfl ⟨Nat.zero_lt_succ _, trivial⟩ (fun f hf => match f, hf with
  | 0, _ => fun vs hv => (zbox_t r_X4_lentBy_1_0) vs hv
  | 1, _ => fun vs hv => (zbox_t r_X4_lentBy_1_1) vs hv
  | f + 2, h => absurd (show f + 2 < 2 from h) (Nat.not_lt.mpr (Nat.le_add_left 2 f)))
noncomputable def gs_X4_lentBy_1 : zMt := zgq false [] 4 [.inr (.ref 28), .inl 9223372043297226757] q_X4_lentBy_1 al_X4_lentBy_1
set_option maxRecDepth 100000 in
theorem cs_X4_lentBy_1 (d : Nat) : zC l G gh (d + 2) n_X4_lentBy gs_X4_lentBy_1 := zgq_ok0 (pcs := p_X4_lentBy) (by decide) rfl rfl (fun a ha => by simp only [al_X4_lentBy_1, List.mem_cons, List.not_mem_nil, or_false] at ha; rcases ha with rfl <;> decide +kernel) (fun gh => x_X4_lentBy_1 d) (by decide +kernel)
noncomputable def gs_X4_lentBy : zMt := (zor gs_X4_lentBy_0 gs_X4_lentBy_1)
theorem cs_X4_lentBy (d : Nat) : zC l G gh (d + 2) n_X4_lentBy gs_X4_lentBy := (zor_ok (cs_X4_lentBy_0 d) (cs_X4_lentBy_1 d))
def n_X8_isPair : qMn := (yX8_isPair, cX8_isPair, 3, (some Jvm.ClassFile.FieldType.boolean), 0, 0)
theorem to_X8_isPair : qTo n_X8_isPair 2 := ⟨g800, g97, ⟨by decide, by decide, by decide +kernel⟩, by decide⟩
def p_X8_isPair : List Nat := [0, 8, 16, 20, 21]
noncomputable def b_X8_isPair_0 : zBl := fun jp K => oAld 0 <| oIld 1 <| oCv 8 1 f_X8_isSeat <| oIf zeq zne (jp 3) (jp 1)
theorem s_X8_isPair_0 (d : Nat) : zPb l G gh (d + 2) n_X8_isPair p_X8_isPair 0 b_X8_isPair_0 := fun K jp hj =>
    z_aload_n (n := 0) (i := 0) (zd (i := .aload_n 0) (n := 1) (by decide +kernel)) rfl <|
    z_iload_n (n := 1) (i := 1) (zd (i := .iload_n 1) (n := 1) (by decide +kernel)) rfl <|
    z_callV (idx := 131) (ci := 8) (N := n_X8_isSeat) (zd (i := .invokevirtual 131) (n := 3) (by decide +kernel)) to_X8_isSeat g771 g773 g23 (by decide +kernel) rfl rfl rfl (c_X8_isSeat (l := l) (G := G) (gh := gh) (d)) <|
    z_if_eq (off := 15) (tgt := 20) (zd (i := .ifCond .eq (15)) (n := 3) (by decide +kernel)) (by decide +kernel) (zj (hj 3) (by decide +kernel)) (zj (hj 1) (by decide +kernel))
noncomputable def b_X8_isPair_1 : zBl := fun jp K => oAld 0 <| oIld 2 <| oCv 8 1 f_X8_isThing <| oIf zeq zne (jp 3) (jp 2)
theorem s_X8_isPair_1 (d : Nat) : zPb l G gh (d + 2) n_X8_isPair p_X8_isPair 8 b_X8_isPair_1 := fun K jp hj =>
    z_aload_n (n := 0) (i := 0) (zd (i := .aload_n 0) (n := 1) (by decide +kernel)) rfl <|
    z_iload_n (n := 2) (i := 2) (zd (i := .iload_n 2) (n := 1) (by decide +kernel)) rfl <|
    z_callV (idx := 115) (ci := 8) (N := n_X8_isThing) (zd (i := .invokevirtual 115) (n := 3) (by decide +kernel)) to_X8_isThing g708 g710 g17 (by decide +kernel) rfl rfl rfl (c_X8_isThing (l := l) (G := G) (gh := gh) (d)) <|
    z_if_eq (off := 7) (tgt := 20) (zd (i := .ifCond .eq (7)) (n := 3) (by decide +kernel)) (by decide +kernel) (zj (hj 3) (by decide +kernel)) (zj (hj 2) (by decide +kernel))
noncomputable def b_X8_isPair_2 : zBl := fun jp K => oInt 2147483649 <| jp 4
theorem s_X8_isPair_2 (d : Nat) : zPb l G gh (d + 2) n_X8_isPair p_X8_isPair 16 b_X8_isPair_2 := fun K jp hj =>
    z_iconst (n := 1) (zd (i := .iconst (1)) (n := 1) (by decide +kernel)) (by decide +kernel) <|
    z_goto (off := 4) (tgt := 21) (zd (i := .goto (4)) (n := 3) (by decide +kernel)) (by decide +kernel) (zj (hj 4) (by decide +kernel))
noncomputable def b_X8_isPair_3 : zBl := fun jp K => oInt 2147483648 <| jp 4
theorem s_X8_isPair_3 (d : Nat) : zPb l G gh (d + 2) n_X8_isPair p_X8_isPair 20 b_X8_isPair_3 := fun K jp hj =>
    z_iconst (n := 0) (zd (i := .iconst (0)) (n := 1) (by decide +kernel)) (by decide +kernel) <|
    (zj (hj 4) (by decide +kernel))
noncomputable def b_X8_isPair_4 : zBl := fun jp K => oZret K
theorem s_X8_isPair_4 (d : Nat) : zPb l G gh (d + 2) n_X8_isPair p_X8_isPair 21 b_X8_isPair_4 := fun K jp hj =>
    z_zret (zd (i := .ireturn) (n := 1) (by decide +kernel)) rfl
noncomputable def t_X8_isPair : List zBl := [b_X8_isPair_0, b_X8_isPair_1, b_X8_isPair_2, b_X8_isPair_3, b_X8_isPair_4]
theorem tt_X8_isPair (d : Nat) : zT (zPb l G gh (d + 2) n_X8_isPair p_X8_isPair) t_X8_isPair p_X8_isPair := ⟨s_X8_isPair_0 d, s_X8_isPair_1 d, s_X8_isPair_2 d, s_X8_isPair_3 d, s_X8_isPair_4 d, trivial⟩
noncomputable def f_X8_isPair : zMt := zmet 3 t_X8_isPair
theorem c_X8_isPair (d : Nat) : zC l G gh (d + 2) n_X8_isPair f_X8_isPair := zmet_ok (pcs := p_X8_isPair) (by decide) rfl rfl (tt_X8_isPair d)
def n_X3_push : qMn := (yX3_push, cX3_push, 2, none, 0, 0)
theorem to_X3_push : qTo n_X3_push 1 := ⟨g839, g108, ⟨by decide, by decide, by decide +kernel⟩, by decide⟩
def p_X3_push : List Nat := [0]
noncomputable def b_X3_push_0 : zBl := fun jp K => oSpF 0 3 1 30 <| oAld 0 <| oGetR 3 0 <| oAld 0 <| oGetI 3 1 <| oAald <| oAld 1 <| oCv 4 1 f_X4_copy <| oAld 0 <| oAld 0 <| oGetI 3 1 <| oInt 2147483649 <| oB2 zadd <| oInt 2147483678 <| oB2z zirem <| oPutI 3 1 <| oAld 0 <| oAld 0 <| oGetI 3 2 <| oInt 2147483649 <| oB2 zadd <| oInt 2147483678 <| oM2 zmin <| oPutI 3 2 <| oVret K
theorem s_X3_push_0 (d : Nat) : zPb l G gh (d + 2) n_X3_push p_X3_push 0 b_X3_push_0 := fun K jp hj =>
    z_spF (r := 0) (ci := 3) (j := 1) (n := 30) (by decide +kernel) rfl <|
    z_aload_n (n := 0) (i := 0) (zd (i := .aload_n 0) (n := 1) (by decide +kernel)) rfl <|
    z_getR (ci := 3) (j := 0) (idx := 11) (zd (i := .getfield 11) (n := 3) (by decide +kernel)) (by decide +kernel) (by decide +kernel) rfl g412 <|
    z_aload_n (n := 0) (i := 0) (zd (i := .aload_n 0) (n := 1) (by decide +kernel)) rfl <|
    z_getI (ci := 3) (j := 1) (idx := 15) (zd (i := .getfield 15) (n := 3) (by decide +kernel)) (by decide +kernel) (by decide +kernel) rfl g413 <|
    z_aald (zd (i := .aaload) (n := 1) (by decide +kernel)) <|
    z_aload_n (n := 1) (i := 1) (zd (i := .aload_n 1) (n := 1) (by decide +kernel)) rfl <|
    z_callV (idx := 23) (ci := 4) (N := n_X4_copy) (zd (i := .invokevirtual 23) (n := 3) (by decide +kernel)) to_X4_copy g840 g841 g842 (by decide +kernel) rfl rfl rfl (c_X4_copy (l := l) (G := G) (gh := gh) (d)) <|
    z_aload_n (n := 0) (i := 0) (zd (i := .aload_n 0) (n := 1) (by decide +kernel)) rfl <|
    z_aload_n (n := 0) (i := 0) (zd (i := .aload_n 0) (n := 1) (by decide +kernel)) rfl <|
    z_getI (ci := 3) (j := 1) (idx := 15) (zd (i := .getfield 15) (n := 3) (by decide +kernel)) (by decide +kernel) (by decide +kernel) rfl g413 <|
    z_iconst (n := 1) (zd (i := .iconst (1)) (n := 1) (by decide +kernel)) (by decide +kernel) <|
    z_iadd (zd (i := .iadd) (n := 1) (by decide +kernel)) <|
    z_bipush (n := 30) (zd (i := .bipush (30)) (n := 2) (by decide +kernel)) (by decide +kernel) <|
    z_irem (zd (i := .irem) (n := 1) (by decide +kernel)) <|
    z_putI (ci := 3) (j := 1) (idx := 15) (zd (i := .putfield 15) (n := 3) (by decide +kernel)) (by decide +kernel) (by decide +kernel) rfl g413 (Or.inl rfl) <|
    z_aload_n (n := 0) (i := 0) (zd (i := .aload_n 0) (n := 1) (by decide +kernel)) rfl <|
    z_aload_n (n := 0) (i := 0) (zd (i := .aload_n 0) (n := 1) (by decide +kernel)) rfl <|
    z_getI (ci := 3) (j := 2) (idx := 19) (zd (i := .getfield 19) (n := 3) (by decide +kernel)) (by decide +kernel) (by decide +kernel) rfl g414 <|
    z_iconst (n := 1) (zd (i := .iconst (1)) (n := 1) (by decide +kernel)) (by decide +kernel) <|
    z_iadd (zd (i := .iadd) (n := 1) (by decide +kernel)) <|
    z_bipush (n := 30) (zd (i := .bipush (30)) (n := 2) (by decide +kernel)) (by decide +kernel) <|
    z_min (idx := 27) (zd (i := .invokestatic 27) (n := 3) (by decide +kernel)) g847 g578 g111 g579 <|
    z_putI (ci := 3) (j := 2) (idx := 19) (zd (i := .putfield 19) (n := 3) (by decide +kernel)) (by decide +kernel) (by decide +kernel) rfl g414 (Or.inl rfl) <|
    z_vret (zd (i := .return_) (n := 1) (by decide +kernel)) rfl
noncomputable def t_X3_push : List zBl := [b_X3_push_0]
theorem tt_X3_push (d : Nat) : zT (zPb l G gh (d + 2) n_X3_push p_X3_push) t_X3_push p_X3_push := ⟨s_X3_push_0 d, trivial⟩
def q_X3_push_0 : List (Nat × Nat) := [(21, zk22), (22, zk10), (23, zk10), (24, zk10), (25, zk10), (26, zk23), (27, zk23), (35, zk35), (36, zk36), (37, zk37), (38, zk10), (39, zk10), (40, zk10), (41, zk10), (42, zk23), (43, zk23), (44, zk38), (45, zk10), (46, zk10), (47, zk10), (48, zk10), (49, zk23), (50, zk23), (51, zk39), (52, zk10), (53, zk10), (54, zk10), (55, zk10), (56, zk23), (57, zk23), (58, zk40), (59, zk10), (60, zk10), (61, zk10), (62, zk10), (63, zk23), (64, zk23), (65, zk41), (66, zk10), (67, zk10), (68, zk10), (69, zk10), (70, zk23), (71, zk23), (72, zk42), (73, zk10), (74, zk10), (75, zk10), (76, zk10), (77, zk23), (78, zk23), (79, zk43), (80, zk10), (81, zk10), (82, zk10), (83, zk10), (84, zk23), (85, zk23), (86, zk44), (87, zk10), (88, zk10), (89, zk10), (90, zk10), (91, zk23), (92, zk23), (93, zk45), (94, zk10), (95, zk10), (96, zk10), (97, zk10), (98, zk23), (99, zk23), (100, zk46), (101, zk10), (102, zk10), (103, zk10), (104, zk10), (105, zk23), (106, zk23), (107, zk47), (108, zk10), (109, zk10), (110, zk10), (111, zk10), (112, zk23), (113, zk23), (114, zk48), (115, zk10), (116, zk10), (117, zk10), (118, zk10), (119, zk23), (120, zk23), (121, zk49), (122, zk10), (123, zk10), (124, zk10), (125, zk10), (126, zk23), (127, zk23), (128, zk50), (129, zk10), (130, zk10), (131, zk10), (132, zk10), (133, zk23), (134, zk23), (135, zk51), (136, zk10), (137, zk10), (138, zk10), (139, zk10), (140, zk23), (141, zk23), (142, zk52), (143, zk10), (144, zk10), (145, zk10), (146, zk10), (147, zk23), (148, zk23), (149, zk53), (150, zk10), (151, zk10), (152, zk10), (153, zk10), (154, zk23), (155, zk23), (156, zk54), (157, zk10), (158, zk10), (159, zk10), (160, zk10), (161, zk23), (162, zk23), (163, zk55), (164, zk10), (165, zk10), (166, zk10), (167, zk10), (168, zk23), (169, zk23), (170, zk56), (171, zk10), (172, zk10), (173, zk10), (174, zk10), (175, zk23), (176, zk23), (177, zk57), (178, zk10), (179, zk10), (180, zk10), (181, zk10), (182, zk23), (183, zk23), (184, zk58), (185, zk10), (186, zk10), (187, zk10), (188, zk10), (189, zk23), (190, zk23), (191, zk59), (192, zk10), (193, zk10), (194, zk10), (195, zk10), (196, zk23), (197, zk23), (198, zk60), (199, zk10), (200, zk10), (201, zk10), (202, zk10), (203, zk23), (204, zk23), (205, zk61), (206, zk10), (207, zk10), (208, zk10), (209, zk10), (210, zk23), (211, zk23), (212, zk62), (213, zk10), (214, zk10), (215, zk10), (216, zk10), (217, zk23), (218, zk23), (219, zk63), (220, zk10), (221, zk10), (222, zk10), (223, zk10), (224, zk23), (225, zk23), (226, zk64), (227, zk10), (228, zk10), (229, zk10), (230, zk10), (231, zk23), (232, zk23), (233, zk65), (234, zk10), (235, zk10), (236, zk10), (237, zk10), (238, zk23), (239, zk23), (240, zk66), (241, zk10), (242, zk10), (243, zk10), (244, zk10), (245, zk23), (246, zk23)]
noncomputable def al_X3_push_0 : zAq := [(none, [(21, zk22), (22, zk10), (23, zk10), (24, zk10), (25, zk10), (26, zk23), (27, zk23), (35, zk67), (36, zk36), (37, zk68), (38, zk11), (39, zk11), (40, zk11), (41, zk11), (42, zk31), (43, zk31), (44, zk69), (45, zk11), (46, zk11), (47, zk11), (48, zk11), (49, zk31), (50, zk31), (51, zk70), (52, zk11), (53, zk11), (54, zk11), (55, zk11), (56, zk31), (57, zk31), (58, zk71), (59, zk11), (60, zk11), (61, zk11), (62, zk11), (63, zk31), (64, zk31), (65, zk72), (66, zk11), (67, zk11), (68, zk11), (69, zk11), (70, zk31), (71, zk31), (72, zk73), (73, zk11), (74, zk11), (75, zk11), (76, zk11), (77, zk31), (78, zk31), (79, zk74), (80, zk11), (81, zk11), (82, zk11), (83, zk11), (84, zk31), (85, zk31), (86, zk75), (87, zk11), (88, zk11), (89, zk11), (90, zk11), (91, zk31), (92, zk31), (93, zk76), (94, zk11), (95, zk11), (96, zk11), (97, zk11), (98, zk31), (99, zk31), (100, zk77), (101, zk11), (102, zk11), (103, zk11), (104, zk11), (105, zk31), (106, zk31), (107, zk78), (108, zk11), (109, zk11), (110, zk11), (111, zk11), (112, zk31), (113, zk31), (114, zk79), (115, zk11), (116, zk11), (117, zk11), (118, zk11), (119, zk31), (120, zk31), (121, zk80), (122, zk11), (123, zk11), (124, zk11), (125, zk11), (126, zk31), (127, zk31), (128, zk81), (129, zk11), (130, zk11), (131, zk11), (132, zk11), (133, zk31), (134, zk31), (135, zk82), (136, zk11), (137, zk11), (138, zk11), (139, zk11), (140, zk31), (141, zk31), (142, zk83), (143, zk11), (144, zk11), (145, zk11), (146, zk11), (147, zk31), (148, zk31), (149, zk84), (150, zk11), (151, zk11), (152, zk11), (153, zk11), (154, zk31), (155, zk31), (156, zk85), (157, zk11), (158, zk11), (159, zk11), (160, zk11), (161, zk31), (162, zk31), (163, zk86), (164, zk11), (165, zk11), (166, zk11), (167, zk11), (168, zk31), (169, zk31), (170, zk87), (171, zk11), (172, zk11), (173, zk11), (174, zk11), (175, zk31), (176, zk31), (177, zk88), (178, zk11), (179, zk11), (180, zk11), (181, zk11), (182, zk31), (183, zk31), (184, zk89), (185, zk11), (186, zk11), (187, zk11), (188, zk11), (189, zk31), (190, zk31), (191, zk90), (192, zk11), (193, zk11), (194, zk11), (195, zk11), (196, zk31), (197, zk31), (198, zk91), (199, zk11), (200, zk11), (201, zk11), (202, zk11), (203, zk31), (204, zk31), (205, zk92), (206, zk11), (207, zk11), (208, zk11), (209, zk11), (210, zk31), (211, zk31), (212, zk93), (213, zk11), (214, zk11), (215, zk11), (216, zk11), (217, zk31), (218, zk31), (219, zk94), (220, zk11), (221, zk11), (222, zk11), (223, zk11), (224, zk31), (225, zk31), (226, zk95), (227, zk11), (228, zk11), (229, zk11), (230, zk11), (231, zk31), (232, zk31), (233, zk96), (234, zk11), (235, zk11), (236, zk11), (237, zk11), (238, zk31), (239, zk31), (240, zk97), (241, zk11), (242, zk11), (243, zk11), (244, zk11), (245, zk31), (246, zk31)])]
noncomputable def fm_X3_push_0 : List zFm := [(0, [], (fun vs => [.inr (.ref 35), .inr (.ref 21)]), (fun vs => zP q_X3_push_0), (fun vs => Nat.sub (Nat.add 0 0) 0))]
def bf_X3_push_0 : List Nat := []
theorem r_X3_push_0_0 : zbox [] (fun vs => zFrun (zpost (zAlq al_X3_push_0)) 1000 t_X3_push fm_X3_push_0 bf_X3_push_0 (0, vs)) = true := by decide +kernel
set_option maxRecDepth 100000 in
theorem x_X3_push_0 (d : Nat) : zS l G gh (d + 2) (zpost (zAlq al_X3_push_0)) n_X3_push (zn 0 p_X3_push 0) (zwc (0, [.inr (.ref 35), .inr (.ref 21)], zP q_X3_push_0) 0) := zentry (tt_X3_push d) fm_X3_push_0 bf_X3_push_0 1000 (by decide +kernel) rfl ⟨Nat.zero_lt_succ _, trivial⟩ (fun f hf => match f, hf with
  | 0, _ => fun vs hv => (zbox_t r_X3_push_0_0) vs hv
  | f + 1, h => absurd (show f + 1 < 1 from h) (Nat.not_lt.mpr (Nat.le_add_left 1 f)))
noncomputable def gs_X3_push_0 : zMt := zgq false [] 2 [.inr (.ref 35), .inr (.ref 21)] q_X3_push_0 al_X3_push_0
set_option maxRecDepth 100000 in
theorem cs_X3_push_0 (d : Nat) : zC l G gh (d + 2) n_X3_push gs_X3_push_0 := zgq_ok0 (pcs := p_X3_push) (by decide) rfl rfl (fun a ha => by simp only [al_X3_push_0, List.mem_cons, List.not_mem_nil, or_false] at ha; rcases ha with rfl <;> decide +kernel) (fun gh => x_X3_push_0 d) (by decide +kernel)
noncomputable def gs_X3_push : zMt := gs_X3_push_0
theorem cs_X3_push (d : Nat) : zC l G gh (d + 2) n_X3_push gs_X3_push := (cs_X3_push_0 d)
def n_X0_lot : qMn := (yX0_lot, cX0_lot, 3, (some Jvm.ClassFile.FieldType.int), 0, 0)
theorem to_X0_lot : qTo n_X0_lot 2 := ⟨g875, g105, ⟨by decide, by decide, by decide +kernel⟩, by decide⟩
def p_X0_lot : List Nat := [0]
noncomputable def b_X0_lot_0 : zBl := fun jp K => oIld 0 <| oInt 2147483767 <| oCs 2 f_X0_stirred <| oIld 1 <| oCs 2 f_X0_stirred <| oIst 2 <| oIld 2 <| oInt 2147483649 <| oB2 ziushr <| oInt 2147483748 <| oB2z zirem <| oIret K
theorem s_X0_lot_0 (d : Nat) : zPb l G gh (d + 2) n_X0_lot p_X0_lot 0 b_X0_lot_0 := fun K jp hj =>
    z_iload_n (n := 0) (i := 0) (zd (i := .iload_n 0) (n := 1) (by decide +kernel)) rfl <|
    z_bipush (n := 119) (zd (i := .bipush (119)) (n := 2) (by decide +kernel)) (by decide +kernel) <|
    z_callS (idx := 91) (N := n_X0_stirred) (zd (i := .invokestatic 91) (n := 3) (by decide +kernel)) to_X0_stirred g876 g877 rfl rfl (c_X0_stirred (l := l) (G := G) (gh := gh) (d)) <|
    z_iload_n (n := 1) (i := 1) (zd (i := .iload_n 1) (n := 1) (by decide +kernel)) rfl <|
    z_callS (idx := 91) (N := n_X0_stirred) (zd (i := .invokestatic 91) (n := 3) (by decide +kernel)) to_X0_stirred g876 g877 rfl rfl (c_X0_stirred (l := l) (G := G) (gh := gh) (d)) <|
    z_istore_n (n := 2) (i := 2) (zd (i := .istore_n 2) (n := 1) (by decide +kernel)) rfl (by decide +kernel) <|
    z_iload_n (n := 2) (i := 2) (zd (i := .iload_n 2) (n := 1) (by decide +kernel)) rfl <|
    z_iconst (n := 1) (zd (i := .iconst (1)) (n := 1) (by decide +kernel)) (by decide +kernel) <|
    z_iushr (zd (i := .iushr) (n := 1) (by decide +kernel)) <|
    z_bipush (n := 100) (zd (i := .bipush (100)) (n := 2) (by decide +kernel)) (by decide +kernel) <|
    z_irem (zd (i := .irem) (n := 1) (by decide +kernel)) <|
    z_iret (zd (i := .ireturn) (n := 1) (by decide +kernel)) rfl
noncomputable def t_X0_lot : List zBl := [b_X0_lot_0]
theorem tt_X0_lot (d : Nat) : zT (zPb l G gh (d + 2) n_X0_lot p_X0_lot) t_X0_lot p_X0_lot := ⟨s_X0_lot_0 d, trivial⟩
noncomputable def f_X0_lot : zMt := zmet 3 t_X0_lot
theorem c_X0_lot (d : Nat) : zC l G gh (d + 2) n_X0_lot f_X0_lot := zmet_ok (pcs := p_X0_lot) (by decide) rfl rfl (tt_X0_lot d)
def n_X3_pop : qMn := (yX3_pop, cX3_pop, 2, (some Jvm.ClassFile.FieldType.boolean), 0, 0)
theorem to_X3_pop : qTo n_X3_pop 1 := ⟨g896, g108, ⟨by decide, by decide, by decide +kernel⟩, by decide⟩
def p_X3_pop : List Nat := [0, 7, 9]
noncomputable def b_X3_pop_0 : zBl := fun jp K => oSpF 0 3 1 30 <| oNFC 0 3 2 2147483648 zneN zeqN zn1_ne zn1_eq (jp 2) (jp 1)
theorem s_X3_pop_0 (d : Nat) : zPb l G gh (d + 2) n_X3_pop p_X3_pop 0 b_X3_pop_0 := fun K jp hj =>
    z_spF (r := 0) (ci := 3) (j := 1) (n := 30) (by decide +kernel) rfl <|
    z_nF0_ne (r := 0) (ci := 3) (j := 2) (a1 := 4) (off := 5) (tgt := 9) (zFd_n (n := 0) (r := 0) (ci := 3) (j := 2) (idx := 19) (zd (i := .aload_n 0) (n := 1) (by decide +kernel)) rfl (zd (i := .getfield 19) (n := 3) (by decide +kernel)) (by decide +kernel) (by decide +kernel) rfl g414) (by decide +kernel) rfl (zd (i := .ifCond .ne (5)) (n := 3) (by decide +kernel)) (by decide +kernel) (zj (hj 2) (by decide +kernel)) (zj (hj 1) (by decide +kernel))
noncomputable def b_X3_pop_1 : zBl := fun jp K => oInt 2147483648 <| oZret K
theorem s_X3_pop_1 (d : Nat) : zPb l G gh (d + 2) n_X3_pop p_X3_pop 7 b_X3_pop_1 := fun K jp hj =>
    z_iconst (n := 0) (zd (i := .iconst (0)) (n := 1) (by decide +kernel)) (by decide +kernel) <|
    z_zret (zd (i := .ireturn) (n := 1) (by decide +kernel)) rfl
noncomputable def b_X3_pop_2 : zBl := fun jp K => oAld 0 <| oDup <| oGetI 3 2 <| oInt 2147483649 <| oB2 zsub <| oPutI 3 2 <| oAld 0 <| oAld 0 <| oGetI 3 1 <| oInt 2147483678 <| oB2 zadd <| oInt 2147483649 <| oB2 zsub <| oInt 2147483678 <| oB2z zirem <| oPutI 3 1 <| oAld 1 <| oAld 0 <| oGetR 3 0 <| oAld 0 <| oGetI 3 1 <| oAald <| oCv 4 1 f_X4_copy <| oInt 2147483649 <| oZret K
theorem s_X3_pop_2 (d : Nat) : zPb l G gh (d + 2) n_X3_pop p_X3_pop 9 b_X3_pop_2 := fun K jp hj =>
    z_aload_n (n := 0) (i := 0) (zd (i := .aload_n 0) (n := 1) (by decide +kernel)) rfl <|
    z_dup (zd (i := .dup) (n := 1) (by decide +kernel)) <|
    z_getI (ci := 3) (j := 2) (idx := 19) (zd (i := .getfield 19) (n := 3) (by decide +kernel)) (by decide +kernel) (by decide +kernel) rfl g414 <|
    z_iconst (n := 1) (zd (i := .iconst (1)) (n := 1) (by decide +kernel)) (by decide +kernel) <|
    z_isub (zd (i := .isub) (n := 1) (by decide +kernel)) <|
    z_putI (ci := 3) (j := 2) (idx := 19) (zd (i := .putfield 19) (n := 3) (by decide +kernel)) (by decide +kernel) (by decide +kernel) rfl g414 (Or.inl rfl) <|
    z_aload_n (n := 0) (i := 0) (zd (i := .aload_n 0) (n := 1) (by decide +kernel)) rfl <|
    z_aload_n (n := 0) (i := 0) (zd (i := .aload_n 0) (n := 1) (by decide +kernel)) rfl <|
    z_getI (ci := 3) (j := 1) (idx := 15) (zd (i := .getfield 15) (n := 3) (by decide +kernel)) (by decide +kernel) (by decide +kernel) rfl g413 <|
    z_bipush (n := 30) (zd (i := .bipush (30)) (n := 2) (by decide +kernel)) (by decide +kernel) <|
    z_iadd (zd (i := .iadd) (n := 1) (by decide +kernel)) <|
    z_iconst (n := 1) (zd (i := .iconst (1)) (n := 1) (by decide +kernel)) (by decide +kernel) <|
    z_isub (zd (i := .isub) (n := 1) (by decide +kernel)) <|
    z_bipush (n := 30) (zd (i := .bipush (30)) (n := 2) (by decide +kernel)) (by decide +kernel) <|
    z_irem (zd (i := .irem) (n := 1) (by decide +kernel)) <|
    z_putI (ci := 3) (j := 1) (idx := 15) (zd (i := .putfield 15) (n := 3) (by decide +kernel)) (by decide +kernel) (by decide +kernel) rfl g413 (Or.inl rfl) <|
    z_aload_n (n := 1) (i := 1) (zd (i := .aload_n 1) (n := 1) (by decide +kernel)) rfl <|
    z_aload_n (n := 0) (i := 0) (zd (i := .aload_n 0) (n := 1) (by decide +kernel)) rfl <|
    z_getR (ci := 3) (j := 0) (idx := 11) (zd (i := .getfield 11) (n := 3) (by decide +kernel)) (by decide +kernel) (by decide +kernel) rfl g412 <|
    z_aload_n (n := 0) (i := 0) (zd (i := .aload_n 0) (n := 1) (by decide +kernel)) rfl <|
    z_getI (ci := 3) (j := 1) (idx := 15) (zd (i := .getfield 15) (n := 3) (by decide +kernel)) (by decide +kernel) (by decide +kernel) rfl g413 <|
    z_aald (zd (i := .aaload) (n := 1) (by decide +kernel)) <|
    z_callV (idx := 23) (ci := 4) (N := n_X4_copy) (zd (i := .invokevirtual 23) (n := 3) (by decide +kernel)) to_X4_copy g840 g841 g842 (by decide +kernel) rfl rfl rfl (c_X4_copy (l := l) (G := G) (gh := gh) (d)) <|
    z_iconst (n := 1) (zd (i := .iconst (1)) (n := 1) (by decide +kernel)) (by decide +kernel) <|
    z_zret (zd (i := .ireturn) (n := 1) (by decide +kernel)) rfl
noncomputable def t_X3_pop : List zBl := [b_X3_pop_0, b_X3_pop_1, b_X3_pop_2]
theorem tt_X3_pop (d : Nat) : zT (zPb l G gh (d + 2) n_X3_pop p_X3_pop) t_X3_pop p_X3_pop := ⟨s_X3_pop_0 d, s_X3_pop_1 d, s_X3_pop_2 d, trivial⟩
def q_X3_pop_0 : List (Nat × Nat) := [(21, zk22), (22, zk10), (23, zk10), (24, zk10), (25, zk10), (26, zk23), (27, zk23), (35, zk35), (36, zk36), (37, zk37), (38, zk10), (39, zk10), (40, zk10), (41, zk10), (42, zk23), (43, zk23), (44, zk38), (45, zk10), (46, zk10), (47, zk10), (48, zk10), (49, zk23), (50, zk23), (51, zk39), (52, zk10), (53, zk10), (54, zk10), (55, zk10), (56, zk23), (57, zk23), (58, zk40), (59, zk10), (60, zk10), (61, zk10), (62, zk10), (63, zk23), (64, zk23), (65, zk41), (66, zk10), (67, zk10), (68, zk10), (69, zk10), (70, zk23), (71, zk23), (72, zk42), (73, zk10), (74, zk10), (75, zk10), (76, zk10), (77, zk23), (78, zk23), (79, zk43), (80, zk10), (81, zk10), (82, zk10), (83, zk10), (84, zk23), (85, zk23), (86, zk44), (87, zk10), (88, zk10), (89, zk10), (90, zk10), (91, zk23), (92, zk23), (93, zk45), (94, zk10), (95, zk10), (96, zk10), (97, zk10), (98, zk23), (99, zk23), (100, zk46), (101, zk10), (102, zk10), (103, zk10), (104, zk10), (105, zk23), (106, zk23), (107, zk47), (108, zk10), (109, zk10), (110, zk10), (111, zk10), (112, zk23), (113, zk23), (114, zk48), (115, zk10), (116, zk10), (117, zk10), (118, zk10), (119, zk23), (120, zk23), (121, zk49), (122, zk10), (123, zk10), (124, zk10), (125, zk10), (126, zk23), (127, zk23), (128, zk50), (129, zk10), (130, zk10), (131, zk10), (132, zk10), (133, zk23), (134, zk23), (135, zk51), (136, zk10), (137, zk10), (138, zk10), (139, zk10), (140, zk23), (141, zk23), (142, zk52), (143, zk10), (144, zk10), (145, zk10), (146, zk10), (147, zk23), (148, zk23), (149, zk53), (150, zk10), (151, zk10), (152, zk10), (153, zk10), (154, zk23), (155, zk23), (156, zk54), (157, zk10), (158, zk10), (159, zk10), (160, zk10), (161, zk23), (162, zk23), (163, zk55), (164, zk10), (165, zk10), (166, zk10), (167, zk10), (168, zk23), (169, zk23), (170, zk56), (171, zk10), (172, zk10), (173, zk10), (174, zk10), (175, zk23), (176, zk23), (177, zk57), (178, zk10), (179, zk10), (180, zk10), (181, zk10), (182, zk23), (183, zk23), (184, zk58), (185, zk10), (186, zk10), (187, zk10), (188, zk10), (189, zk23), (190, zk23), (191, zk59), (192, zk10), (193, zk10), (194, zk10), (195, zk10), (196, zk23), (197, zk23), (198, zk60), (199, zk10), (200, zk10), (201, zk10), (202, zk10), (203, zk23), (204, zk23), (205, zk61), (206, zk10), (207, zk10), (208, zk10), (209, zk10), (210, zk23), (211, zk23), (212, zk62), (213, zk10), (214, zk10), (215, zk10), (216, zk10), (217, zk23), (218, zk23), (219, zk63), (220, zk10), (221, zk10), (222, zk10), (223, zk10), (224, zk23), (225, zk23), (226, zk64), (227, zk10), (228, zk10), (229, zk10), (230, zk10), (231, zk23), (232, zk23), (233, zk65), (234, zk10), (235, zk10), (236, zk10), (237, zk10), (238, zk23), (239, zk23), (240, zk66), (241, zk10), (242, zk10), (243, zk10), (244, zk10), (245, zk23), (246, zk23)]
noncomputable def al_X3_pop_0 : zAq := [(some (.inl 9223372043297226753), [(21, zk98), (22, zk11), (23, zk11), (24, zk11), (25, zk11), (26, zk31), (27, zk31), (35, zk67), (36, zk36), (37, zk37), (38, zk10), (39, zk10), (40, zk10), (41, zk10), (42, zk23), (43, zk23), (44, zk38), (45, zk10), (46, zk10), (47, zk10), (48, zk10), (49, zk23), (50, zk23), (51, zk39), (52, zk10), (53, zk10), (54, zk10), (55, zk10), (56, zk23), (57, zk23), (58, zk40), (59, zk10), (60, zk10), (61, zk10), (62, zk10), (63, zk23), (64, zk23), (65, zk41), (66, zk10), (67, zk10), (68, zk10), (69, zk10), (70, zk23), (71, zk23), (72, zk42), (73, zk10), (74, zk10), (75, zk10), (76, zk10), (77, zk23), (78, zk23), (79, zk43), (80, zk10), (81, zk10), (82, zk10), (83, zk10), (84, zk23), (85, zk23), (86, zk44), (87, zk10), (88, zk10), (89, zk10), (90, zk10), (91, zk23), (92, zk23), (93, zk45), (94, zk10), (95, zk10), (96, zk10), (97, zk10), (98, zk23), (99, zk23), (100, zk46), (101, zk10), (102, zk10), (103, zk10), (104, zk10), (105, zk23), (106, zk23), (107, zk47), (108, zk10), (109, zk10), (110, zk10), (111, zk10), (112, zk23), (113, zk23), (114, zk48), (115, zk10), (116, zk10), (117, zk10), (118, zk10), (119, zk23), (120, zk23), (121, zk49), (122, zk10), (123, zk10), (124, zk10), (125, zk10), (126, zk23), (127, zk23), (128, zk50), (129, zk10), (130, zk10), (131, zk10), (132, zk10), (133, zk23), (134, zk23), (135, zk51), (136, zk10), (137, zk10), (138, zk10), (139, zk10), (140, zk23), (141, zk23), (142, zk52), (143, zk10), (144, zk10), (145, zk10), (146, zk10), (147, zk23), (148, zk23), (149, zk53), (150, zk10), (151, zk10), (152, zk10), (153, zk10), (154, zk23), (155, zk23), (156, zk54), (157, zk10), (158, zk10), (159, zk10), (160, zk10), (161, zk23), (162, zk23), (163, zk55), (164, zk10), (165, zk10), (166, zk10), (167, zk10), (168, zk23), (169, zk23), (170, zk56), (171, zk10), (172, zk10), (173, zk10), (174, zk10), (175, zk23), (176, zk23), (177, zk57), (178, zk10), (179, zk10), (180, zk10), (181, zk10), (182, zk23), (183, zk23), (184, zk58), (185, zk10), (186, zk10), (187, zk10), (188, zk10), (189, zk23), (190, zk23), (191, zk59), (192, zk10), (193, zk10), (194, zk10), (195, zk10), (196, zk23), (197, zk23), (198, zk60), (199, zk10), (200, zk10), (201, zk10), (202, zk10), (203, zk23), (204, zk23), (205, zk61), (206, zk10), (207, zk10), (208, zk10), (209, zk10), (210, zk23), (211, zk23), (212, zk62), (213, zk10), (214, zk10), (215, zk10), (216, zk10), (217, zk23), (218, zk23), (219, zk63), (220, zk10), (221, zk10), (222, zk10), (223, zk10), (224, zk23), (225, zk23), (226, zk64), (227, zk10), (228, zk10), (229, zk10), (230, zk10), (231, zk23), (232, zk23), (233, zk65), (234, zk10), (235, zk10), (236, zk10), (237, zk10), (238, zk23), (239, zk23), (240, zk66), (241, zk10), (242, zk10), (243, zk10), (244, zk10), (245, zk23), (246, zk23)])]
noncomputable def fm_X3_pop_0 : List zFm := [(0, [], (fun vs => [.inr (.ref 35), .inr (.ref 21)]), (fun vs => zP q_X3_pop_0), (fun vs => Nat.sub (Nat.add 0 0) 0))]
def bf_X3_pop_0 : List Nat := []
theorem r_X3_pop_0_0 : zbox [] (fun vs => zFrun (zpost (zAlq al_X3_pop_0)) 1000 t_X3_pop fm_X3_pop_0 bf_X3_pop_0 (0, vs)) = true := by decide +kernel
set_option maxRecDepth 100000 in
theorem x_X3_pop_0 (d : Nat) : zS l G gh (d + 2) (zpost (zAlq al_X3_pop_0)) n_X3_pop (zn 0 p_X3_pop 0) (zwc (0, [.inr (.ref 35), .inr (.ref 21)], zP q_X3_pop_0) 0) := zentry (tt_X3_pop d) fm_X3_pop_0 bf_X3_pop_0 1000 (by decide +kernel) rfl ⟨Nat.zero_lt_succ _, trivial⟩ (fun f hf => match f, hf with
  | 0, _ => fun vs hv => (zbox_t r_X3_pop_0_0) vs hv
  | f + 1, h => absurd (show f + 1 < 1 from h) (Nat.not_lt.mpr (Nat.le_add_left 1 f)))
noncomputable def gs_X3_pop_0 : zMt := zgq false [] 2 [.inr (.ref 35), .inr (.ref 21)] q_X3_pop_0 al_X3_pop_0
set_option maxRecDepth 100000 in
theorem cs_X3_pop_0 (d : Nat) : zC l G gh (d + 2) n_X3_pop gs_X3_pop_0 := zgq_ok0 (pcs := p_X3_pop) (by decide) rfl rfl (fun a ha => by simp only [al_X3_pop_0, List.mem_cons, List.not_mem_nil, or_false] at ha; rcases ha with rfl <;> decide +kernel) (fun gh => x_X3_pop_0 d) (by decide +kernel)
noncomputable def gs_X3_pop : zMt := gs_X3_pop_0
theorem cs_X3_pop (d : Nat) : zC l G gh (d + 2) n_X3_pop gs_X3_pop := (cs_X3_pop_0 d)
def n_X8_titlesClash : qMn := (yX8_titlesClash, cX8_titlesClash, 6, (some Jvm.ClassFile.FieldType.boolean), 0, 0)
theorem to_X8_titlesClash : qTo n_X8_titlesClash 2 := ⟨g922, g97, ⟨by decide, by decide, by decide +kernel⟩, by decide⟩
def p_X8_titlesClash : List Nat := [0, 2, 13, 28, 40, 46, 52, 68, 70, 76, 82]
noncomputable def b_X8_titlesClash_0 : zBl := fun jp K => oInt 2147483648 <| oIst 3 <| jp 1
theorem s_X8_titlesClash_0 (d : Nat) : zPb l G gh (d + 2) n_X8_titlesClash p_X8_titlesClash 0 b_X8_titlesClash_0 := fun K jp hj =>
    z_iconst (n := 0) (zd (i := .iconst (0)) (n := 1) (by decide +kernel)) (by decide +kernel) <|
    z_istore_n (n := 3) (i := 3) (zd (i := .istore_n 3) (n := 1) (by decide +kernel)) rfl (by decide +kernel) <|
    (zj (hj 1) (by decide +kernel))
noncomputable def b_X8_titlesClash_1 : zBl := fun jp K => oIld 3 <| oAld 0 <| oGetR 8 12 <| oGetI 0 2 <| oIc zge zlt (jp 10) (jp 2)
theorem s_X8_titlesClash_1 (d : Nat) : zPb l G gh (d + 2) n_X8_titlesClash p_X8_titlesClash 2 b_X8_titlesClash_1 := fun K jp hj =>
    z_iload_n (n := 3) (i := 3) (zd (i := .iload_n 3) (n := 1) (by decide +kernel)) rfl <|
    z_aload_n (n := 0) (i := 0) (zd (i := .aload_n 0) (n := 1) (by decide +kernel)) rfl <|
    z_getR (ci := 8) (j := 12) (idx := 71) (zd (i := .getfield 71) (n := 3) (by decide +kernel)) (by decide +kernel) (by decide +kernel) rfl g464 <|
    z_getI (ci := 0) (j := 2) (idx := 236) (zd (i := .getfield 236) (n := 3) (by decide +kernel)) (by decide +kernel) (by decide +kernel) rfl g280 <|
    z_icmp_ge (off := 72) (tgt := 82) (zd (i := .if_icmp .ge (72)) (n := 3) (by decide +kernel)) (by decide +kernel) (zj (hj 10) (by decide +kernel)) (zj (hj 2) (by decide +kernel))
noncomputable def b_X8_titlesClash_2 : zBl := fun jp K => oAld 0 <| oGetR 8 9 <| oIld 1 <| oIld 3 <| oCs 2 f_X8_loanOf <| oXald 10 <| oIst 4 <| oInt 2147483648 <| oIst 5 <| jp 3
theorem s_X8_titlesClash_2 (d : Nat) : zPb l G gh (d + 2) n_X8_titlesClash p_X8_titlesClash 13 b_X8_titlesClash_2 := fun K jp hj =>
    z_aload_n (n := 0) (i := 0) (zd (i := .aload_n 0) (n := 1) (by decide +kernel)) rfl <|
    z_getR (ci := 8) (j := 9) (idx := 59) (zd (i := .getfield 59) (n := 3) (by decide +kernel)) (by decide +kernel) (by decide +kernel) rfl g461 <|
    z_iload_n (n := 1) (i := 1) (zd (i := .iload_n 1) (n := 1) (by decide +kernel)) rfl <|
    z_iload_n (n := 3) (i := 3) (zd (i := .iload_n 3) (n := 1) (by decide +kernel)) rfl <|
    z_callS (idx := 166) (N := n_X8_loanOf) (zd (i := .invokestatic 166) (n := 3) (by decide +kernel)) to_X8_loanOf g764 g765 rfl rfl (c_X8_loanOf (l := l) (G := G) (gh := gh) (d)) <|
    z_iald (zd (i := .iaload) (n := 1) (by decide +kernel)) <|
    z_istore (i := 4) (zd (i := .istore 4) (n := 2) (by decide +kernel)) (by decide +kernel) <|
    z_iconst (n := 0) (zd (i := .iconst (0)) (n := 1) (by decide +kernel)) (by decide +kernel) <|
    z_istore (i := 5) (zd (i := .istore 5) (n := 2) (by decide +kernel)) (by decide +kernel) <|
    (zj (hj 3) (by decide +kernel))
noncomputable def b_X8_titlesClash_3 : zBl := fun jp K => oIld 5 <| oAld 0 <| oGetR 8 12 <| oGetI 0 2 <| oIc zge zlt (jp 9) (jp 4)
theorem s_X8_titlesClash_3 (d : Nat) : zPb l G gh (d + 2) n_X8_titlesClash p_X8_titlesClash 28 b_X8_titlesClash_3 := fun K jp hj =>
    z_iload (i := 5) (zd (i := .iload 5) (n := 2) (by decide +kernel)) <|
    z_aload_n (n := 0) (i := 0) (zd (i := .aload_n 0) (n := 1) (by decide +kernel)) rfl <|
    z_getR (ci := 8) (j := 12) (idx := 71) (zd (i := .getfield 71) (n := 3) (by decide +kernel)) (by decide +kernel) (by decide +kernel) rfl g464 <|
    z_getI (ci := 0) (j := 2) (idx := 236) (zd (i := .getfield 236) (n := 3) (by decide +kernel)) (by decide +kernel) (by decide +kernel) rfl g280 <|
    z_icmp_ge (off := 39) (tgt := 76) (zd (i := .if_icmp .ge (39)) (n := 3) (by decide +kernel)) (by decide +kernel) (zj (hj 9) (by decide +kernel)) (zj (hj 4) (by decide +kernel))
noncomputable def b_X8_titlesClash_4 : zBl := fun jp K => oNLC 4 2147483647 zeqN zneN zn1_eq zn1_ne (jp 9) (jp 5)
theorem s_X8_titlesClash_4 (d : Nat) : zPb l G gh (d + 2) n_X8_titlesClash p_X8_titlesClash 40 b_X8_titlesClash_4 := fun K jp hj =>
    z_nLC_eq (i := 4) (c0 := 2147483647) (a1 := 2) (a2 := 1) (off := 33) (tgt := 76) (zLd_w (i := 4) (zd (i := .iload 4) (n := 2) (by decide +kernel))) (zCn_c (n := -1) (zd (i := .iconst (-1)) (n := 1) (by decide +kernel)) (by decide +kernel)) (zd (i := .if_icmp .eq (33)) (n := 3) (by decide +kernel)) (by decide +kernel) (zj (hj 9) (by decide +kernel)) (zj (hj 5) (by decide +kernel))
noncomputable def b_X8_titlesClash_5 : zBl := fun jp K => oNLL 5 3 zeqN zneN zn1_eq zn2_eq zn1_ne zn2_ne (jp 8) (jp 6)
theorem s_X8_titlesClash_5 (d : Nat) : zPb l G gh (d + 2) n_X8_titlesClash p_X8_titlesClash 46 b_X8_titlesClash_5 := fun K jp hj =>
    z_nLL_eq (i := 5) (j := 3) (a1 := 2) (a2 := 1) (off := 21) (tgt := 70) (zLd_w (i := 5) (zd (i := .iload 5) (n := 2) (by decide +kernel))) (zLd_n (n := 3) (i := 3) (zd (i := .iload_n 3) (n := 1) (by decide +kernel)) rfl) (zd (i := .if_icmp .eq (21)) (n := 3) (by decide +kernel)) (by decide +kernel) (zj (hj 8) (by decide +kernel)) (zj (hj 6) (by decide +kernel))
noncomputable def b_X8_titlesClash_6 : zBl := fun jp K => oAld 0 <| oGetR 8 9 <| oIld 2 <| oIld 5 <| oCs 2 f_X8_loanOf <| oXald 10 <| oIld 4 <| oIc zne zeq (jp 8) (jp 7)
theorem s_X8_titlesClash_6 (d : Nat) : zPb l G gh (d + 2) n_X8_titlesClash p_X8_titlesClash 52 b_X8_titlesClash_6 := fun K jp hj =>
    z_aload_n (n := 0) (i := 0) (zd (i := .aload_n 0) (n := 1) (by decide +kernel)) rfl <|
    z_getR (ci := 8) (j := 9) (idx := 59) (zd (i := .getfield 59) (n := 3) (by decide +kernel)) (by decide +kernel) (by decide +kernel) rfl g461 <|
    z_iload_n (n := 2) (i := 2) (zd (i := .iload_n 2) (n := 1) (by decide +kernel)) rfl <|
    z_iload (i := 5) (zd (i := .iload 5) (n := 2) (by decide +kernel)) <|
    z_callS (idx := 166) (N := n_X8_loanOf) (zd (i := .invokestatic 166) (n := 3) (by decide +kernel)) to_X8_loanOf g764 g765 rfl rfl (c_X8_loanOf (l := l) (G := G) (gh := gh) (d)) <|
    z_iald (zd (i := .iaload) (n := 1) (by decide +kernel)) <|
    z_iload (i := 4) (zd (i := .iload 4) (n := 2) (by decide +kernel)) <|
    z_icmp_ne (off := 5) (tgt := 70) (zd (i := .if_icmp .ne (5)) (n := 3) (by decide +kernel)) (by decide +kernel) (zj (hj 8) (by decide +kernel)) (zj (hj 7) (by decide +kernel))
noncomputable def b_X8_titlesClash_7 : zBl := fun jp K => oInt 2147483649 <| oZret K
theorem s_X8_titlesClash_7 (d : Nat) : zPb l G gh (d + 2) n_X8_titlesClash p_X8_titlesClash 68 b_X8_titlesClash_7 := fun K jp hj =>
    z_iconst (n := 1) (zd (i := .iconst (1)) (n := 1) (by decide +kernel)) (by decide +kernel) <|
    z_zret (zd (i := .ireturn) (n := 1) (by decide +kernel)) rfl
noncomputable def b_X8_titlesClash_8 : zBl := fun jp K => oInc 5 2147483649 <| jp 3
theorem s_X8_titlesClash_8 (d : Nat) : zPb l G gh (d + 2) n_X8_titlesClash p_X8_titlesClash 70 b_X8_titlesClash_8 := fun K jp hj =>
    z_iinc (i := 5) (n := 1) (zd (i := .iinc 5 (1)) (n := 3) (by decide +kernel)) (by decide +kernel) (by decide +kernel) <|
    z_goto (off := -45) (tgt := 28) (zd (i := .goto (-45)) (n := 3) (by decide +kernel)) (by decide +kernel) (zj (hj 3) (by decide +kernel))
noncomputable def b_X8_titlesClash_9 : zBl := fun jp K => oInc 3 2147483649 <| jp 1
theorem s_X8_titlesClash_9 (d : Nat) : zPb l G gh (d + 2) n_X8_titlesClash p_X8_titlesClash 76 b_X8_titlesClash_9 := fun K jp hj =>
    z_iinc (i := 3) (n := 1) (zd (i := .iinc 3 (1)) (n := 3) (by decide +kernel)) (by decide +kernel) (by decide +kernel) <|
    z_goto (off := -77) (tgt := 2) (zd (i := .goto (-77)) (n := 3) (by decide +kernel)) (by decide +kernel) (zj (hj 1) (by decide +kernel))
noncomputable def b_X8_titlesClash_10 : zBl := fun jp K => oInt 2147483648 <| oZret K
theorem s_X8_titlesClash_10 (d : Nat) : zPb l G gh (d + 2) n_X8_titlesClash p_X8_titlesClash 82 b_X8_titlesClash_10 := fun K jp hj =>
    z_iconst (n := 0) (zd (i := .iconst (0)) (n := 1) (by decide +kernel)) (by decide +kernel) <|
    z_zret (zd (i := .ireturn) (n := 1) (by decide +kernel)) rfl
noncomputable def t_X8_titlesClash : List zBl := [b_X8_titlesClash_0, b_X8_titlesClash_1, b_X8_titlesClash_2, b_X8_titlesClash_3, b_X8_titlesClash_4, b_X8_titlesClash_5, b_X8_titlesClash_6, b_X8_titlesClash_7, b_X8_titlesClash_8, b_X8_titlesClash_9, b_X8_titlesClash_10]
theorem tt_X8_titlesClash (d : Nat) : zT (zPb l G gh (d + 2) n_X8_titlesClash p_X8_titlesClash) t_X8_titlesClash p_X8_titlesClash := ⟨s_X8_titlesClash_0 d, s_X8_titlesClash_1 d, s_X8_titlesClash_2 d, s_X8_titlesClash_3 d, s_X8_titlesClash_4 d, s_X8_titlesClash_5 d, s_X8_titlesClash_6 d, s_X8_titlesClash_7 d, s_X8_titlesClash_8 d, s_X8_titlesClash_9 d, s_X8_titlesClash_10 d, trivial⟩
def q_X8_titlesClash_0 : List (Nat × Nat) := [(0, zk12), (256, zk23), (259, zk8)]
noncomputable def al_X8_titlesClash_0 : zAq := [(some (.inl 9223372043297226753), [(0, zk12), (256, zk23), (259, zk8)])]
noncomputable def fm_X8_titlesClash_0 : List zFm := [(0, [], (fun vs => [.inr (.ref 0), .inl 9223372043297226757, .inl 9223372043297226757]), (fun vs => zP q_X8_titlesClash_0), (fun vs => Nat.sub (Nat.add 98 0) 0)),
  (1, [(3, 2147483648, 2147483654)], (fun vs => [.inr (.ref 0), .inl 9223372043297226757, .inl 9223372043297226757, .inl (zn 0 vs 0)]), (fun vs => zP q_X8_titlesClash_0), (fun vs => Nat.sub (Nat.add 30064771163 0) (Nat.add 0 (Nat.mul 14 (zn 0 vs 0))))),
  (3, [(3, 2147483648, 2147483653), (5, 2147483648, 2147483654)], (fun vs => [.inr (.ref 0), .inl 9223372043297226757, .inl 9223372043297226757, .inl (zn 0 vs 0), .inl 8589934591, .inl (zn 0 vs 1)]), (fun vs => zP q_X8_titlesClash_0), (fun vs => Nat.sub (Nat.add 32212254810 0) (Nat.add (Nat.add 0 (Nat.mul 14 (zn 0 vs 0))) (Nat.mul 1 (zn 0 vs 1)))))]
def bf_X8_titlesClash_0 : List Nat := [0, 2, 0, 3]
theorem r_X8_titlesClash_0_0 : zbox [] (fun vs => zFrun (zpost (zAlq al_X8_titlesClash_0)) 1000 t_X8_titlesClash fm_X8_titlesClash_0 bf_X8_titlesClash_0 (0, vs)) = true := by decide +kernel
theorem r_X8_titlesClash_0_1 : zbox [(3, 2147483648, 2147483654)] (fun vs => zFrun (zpost (zAlq al_X8_titlesClash_0)) 1000 t_X8_titlesClash fm_X8_titlesClash_0 bf_X8_titlesClash_0 (1, vs)) = true := by decide +kernel
theorem r_X8_titlesClash_0_2 : zbox [(3, 2147483648, 2147483653), (5, 2147483648, 2147483654)] (fun vs => zFrun (zpost (zAlq al_X8_titlesClash_0)) 1000 t_X8_titlesClash fm_X8_titlesClash_0 bf_X8_titlesClash_0 (2, vs)) = true := by decide +kernel
set_option maxRecDepth 100000 in
theorem x_X8_titlesClash_0 (d : Nat) : zS l G gh (d + 2) (zpost (zAlq al_X8_titlesClash_0)) n_X8_titlesClash (zn 0 p_X8_titlesClash 0) (zwc (0, [.inr (.ref 0), .inl 9223372043297226757, .inl 9223372043297226757], zP q_X8_titlesClash_0) 0) := zentry (tt_X8_titlesClash d) fm_X8_titlesClash_0 bf_X8_titlesClash_0 1000 (by decide +kernel) rfl ⟨Nat.zero_lt_succ _, trivial⟩ (fun f hf => match f, hf with
  | 0, _ => fun vs hv => (zbox_t r_X8_titlesClash_0_0) vs hv
  | 1, _ => fun vs hv => (zbox_t r_X8_titlesClash_0_1) vs hv
  | 2, _ => fun vs hv => (zbox_t r_X8_titlesClash_0_2) vs hv
  | f + 3, h => absurd (show f + 3 < 3 from h) (Nat.not_lt.mpr (Nat.le_add_left 3 f)))
noncomputable def gs_X8_titlesClash_0 : zMt := zgq false [] 6 [.inr (.ref 0), .inl 9223372043297226757, .inl 9223372043297226757] q_X8_titlesClash_0 al_X8_titlesClash_0
set_option maxRecDepth 100000 in
theorem cs_X8_titlesClash_0 (d : Nat) : zC l G gh (d + 2) n_X8_titlesClash gs_X8_titlesClash_0 := zgq_ok0 (pcs := p_X8_titlesClash) (by decide) rfl rfl (fun a ha => by simp only [al_X8_titlesClash_0, List.mem_cons, List.not_mem_nil, or_false] at ha; rcases ha with rfl <;> decide +kernel) (fun gh => x_X8_titlesClash_0 d) (by decide +kernel)
def q_X8_titlesClash_1 : List (Nat × Nat) := [(0, zk13), (9, zk6), (256, zk23)]
noncomputable def al_X8_titlesClash_1 : zAq := [(some (.inl 9223372043297226753), [(0, zk13), (9, zk6), (256, zk23)])]
noncomputable def fm_X8_titlesClash_1 : List zFm := [(0, [], (fun vs => [.inr (.ref 0), .inl 9223372043297226757, .inl 9223372043297226757]), (fun vs => zP q_X8_titlesClash_1), (fun vs => Nat.sub (Nat.add 98 0) 0)),
  (1, [(3, 2147483648, 2147483654)], (fun vs => [.inr (.ref 0), .inl 9223372043297226757, .inl 9223372043297226757, .inl (zn 0 vs 0)]), (fun vs => zP q_X8_titlesClash_1), (fun vs => Nat.sub (Nat.add 30064771163 0) (Nat.add 0 (Nat.mul 14 (zn 0 vs 0))))),
  (3, [(3, 2147483648, 2147483653), (5, 2147483648, 2147483654)], (fun vs => [.inr (.ref 0), .inl 9223372043297226757, .inl 9223372043297226757, .inl (zn 0 vs 0), .inl 8589934591, .inl (zn 0 vs 1)]), (fun vs => zP q_X8_titlesClash_1), (fun vs => Nat.sub (Nat.add 32212254810 0) (Nat.add (Nat.add 0 (Nat.mul 14 (zn 0 vs 0))) (Nat.mul 1 (zn 0 vs 1)))))]
def bf_X8_titlesClash_1 : List Nat := [0, 2, 0, 3]
theorem r_X8_titlesClash_1_0 : zbox [] (fun vs => zFrun (zpost (zAlq al_X8_titlesClash_1)) 1000 t_X8_titlesClash fm_X8_titlesClash_1 bf_X8_titlesClash_1 (0, vs)) = true := by decide +kernel
theorem r_X8_titlesClash_1_1 : zbox [(3, 2147483648, 2147483654)] (fun vs => zFrun (zpost (zAlq al_X8_titlesClash_1)) 1000 t_X8_titlesClash fm_X8_titlesClash_1 bf_X8_titlesClash_1 (1, vs)) = true := by decide +kernel
theorem r_X8_titlesClash_1_2 : zbox [(3, 2147483648, 2147483653), (5, 2147483648, 2147483654)] (fun vs => zFrun (zpost (zAlq al_X8_titlesClash_1)) 1000 t_X8_titlesClash fm_X8_titlesClash_1 bf_X8_titlesClash_1 (2, vs)) = true := by decide +kernel
set_option maxRecDepth 100000 in
theorem x_X8_titlesClash_1 (d : Nat) : zS l G gh (d + 2) (zpost (zAlq al_X8_titlesClash_1)) n_X8_titlesClash (zn 0 p_X8_titlesClash 0) (zwc (0, [.inr (.ref 0), .inl 9223372043297226757, .inl 9223372043297226757], zP q_X8_titlesClash_1) 0) := zentry (tt_X8_titlesClash d) fm_X8_titlesClash_1 bf_X8_titlesClash_1 1000 (by decide +kernel) rfl ⟨Nat.zero_lt_succ _, trivial⟩ (fun f hf => match f, hf with
  | 0, _ => fun vs hv => (zbox_t r_X8_titlesClash_1_0) vs hv
  | 1, _ => fun vs hv => (zbox_t r_X8_titlesClash_1_1) vs hv
  | 2, _ => fun vs hv => (zbox_t r_X8_titlesClash_1_2) vs hv
  | f + 3, h => absurd (show f + 3 < 3 from h) (Nat.not_lt.mpr (Nat.le_add_left 3 f)))
noncomputable def gs_X8_titlesClash_1 : zMt := zgq false [] 6 [.inr (.ref 0), .inl 9223372043297226757, .inl 9223372043297226757] q_X8_titlesClash_1 al_X8_titlesClash_1
set_option maxRecDepth 100000 in
theorem cs_X8_titlesClash_1 (d : Nat) : zC l G gh (d + 2) n_X8_titlesClash gs_X8_titlesClash_1 := zgq_ok0 (pcs := p_X8_titlesClash) (by decide) rfl rfl (fun a ha => by simp only [al_X8_titlesClash_1, List.mem_cons, List.not_mem_nil, or_false] at ha; rcases ha with rfl <;> decide +kernel) (fun gh => x_X8_titlesClash_1 d) (by decide +kernel)
noncomputable def gs_X8_titlesClash : zMt := (zor gs_X8_titlesClash_0 gs_X8_titlesClash_1)
theorem cs_X8_titlesClash (d : Nat) : zC l G gh (d + 2) n_X8_titlesClash gs_X8_titlesClash := (zor_ok (cs_X8_titlesClash_0 d) (cs_X8_titlesClash_1 d))
def n_X8_tell : qMn := (yX8_tell, cX8_tell, 4, (some Jvm.ClassFile.FieldType.int), 0, 0)
theorem to_X8_tell : qTo n_X8_tell 3 := ⟨g1025, g97, ⟨by decide, by decide, by decide +kernel⟩, by decide⟩
def p_X8_tell : List Nat := [0, 7, 12, 19, 23, 29, 31]
noncomputable def b_X8_tell_0 : zBl := fun jp K => oIld 1 <| oCs 1 f_X8_isX <| oIf zeq zne (jp 5) (jp 1)
theorem s_X8_tell_0 (d : Nat) : zPb l G gh (d + 2) n_X8_tell p_X8_tell 0 b_X8_tell_0 := fun K jp hj =>
    z_iload_n (n := 1) (i := 1) (zd (i := .iload_n 1) (n := 1) (by decide +kernel)) rfl <|
    z_callS (idx := 175) (N := n_X8_isX) (zd (i := .invokestatic 175) (n := 3) (by decide +kernel)) to_X8_isX g805 g806 rfl rfl (c_X8_isX (l := l) (G := G) (gh := gh) (d)) <|
    z_if_eq (off := 25) (tgt := 29) (zd (i := .ifCond .eq (25)) (n := 3) (by decide +kernel)) (by decide +kernel) (zj (hj 5) (by decide +kernel)) (zj (hj 1) (by decide +kernel))
noncomputable def b_X8_tell_1 : zBl := fun jp K => oNLC 2 2147483647 zeqN zneN zn1_eq zn1_ne (jp 3) (jp 2)
theorem s_X8_tell_1 (d : Nat) : zPb l G gh (d + 2) n_X8_tell p_X8_tell 7 b_X8_tell_1 := fun K jp hj =>
    z_nLC_eq (i := 2) (c0 := 2147483647) (a1 := 1) (a2 := 1) (off := 10) (tgt := 19) (zLd_n (n := 2) (i := 2) (zd (i := .iload_n 2) (n := 1) (by decide +kernel)) rfl) (zCn_c (n := -1) (zd (i := .iconst (-1)) (n := 1) (by decide +kernel)) (by decide +kernel)) (zd (i := .if_icmp .eq (10)) (n := 3) (by decide +kernel)) (by decide +kernel) (zj (hj 3) (by decide +kernel)) (zj (hj 2) (by decide +kernel))
noncomputable def b_X8_tell_2 : zBl := fun jp K => oIld 2 <| oCs 1 f_X8_isX <| oIf zeq zne (jp 5) (jp 3)
theorem s_X8_tell_2 (d : Nat) : zPb l G gh (d + 2) n_X8_tell p_X8_tell 12 b_X8_tell_2 := fun K jp hj =>
    z_iload_n (n := 2) (i := 2) (zd (i := .iload_n 2) (n := 1) (by decide +kernel)) rfl <|
    z_callS (idx := 175) (N := n_X8_isX) (zd (i := .invokestatic 175) (n := 3) (by decide +kernel)) to_X8_isX g805 g806 rfl rfl (c_X8_isX (l := l) (G := G) (gh := gh) (d)) <|
    z_if_eq (off := 13) (tgt := 29) (zd (i := .ifCond .eq (13)) (n := 3) (by decide +kernel)) (by decide +kernel) (zj (hj 5) (by decide +kernel)) (zj (hj 3) (by decide +kernel))
noncomputable def b_X8_tell_3 : zBl := fun jp K => oNLC 3 2147483648 zltN zgeN zn1_lt zn1_ge (jp 5) (jp 4)
theorem s_X8_tell_3 (d : Nat) : zPb l G gh (d + 2) n_X8_tell p_X8_tell 19 b_X8_tell_3 := fun K jp hj =>
    z_nL0_lt (i := 3) (a1 := 1) (off := 9) (tgt := 29) (zLd_n (n := 3) (i := 3) (zd (i := .iload_n 3) (n := 1) (by decide +kernel)) rfl) (zd (i := .ifCond .lt (9)) (n := 3) (by decide +kernel)) (by decide +kernel) (zj (hj 5) (by decide +kernel)) (zj (hj 4) (by decide +kernel))
noncomputable def b_X8_tell_4 : zBl := fun jp K => oNLC 3 2147483672 zleN zgtN zn1_le zn1_gt (jp 6) (jp 5)
theorem s_X8_tell_4 (d : Nat) : zPb l G gh (d + 2) n_X8_tell p_X8_tell 23 b_X8_tell_4 := fun K jp hj =>
    z_nLC_le (i := 3) (c0 := 2147483672) (a1 := 1) (a2 := 2) (off := 5) (tgt := 31) (zLd_n (n := 3) (i := 3) (zd (i := .iload_n 3) (n := 1) (by decide +kernel)) rfl) (zCn_b (n := 24) (zd (i := .bipush (24)) (n := 2) (by decide +kernel)) (by decide +kernel)) (zd (i := .if_icmp .le (5)) (n := 3) (by decide +kernel)) (by decide +kernel) (zj (hj 6) (by decide +kernel)) (zj (hj 5) (by decide +kernel))
noncomputable def b_X8_tell_5 : zBl := fun jp K => oInt 2147483647 <| oIret K
theorem s_X8_tell_5 (d : Nat) : zPb l G gh (d + 2) n_X8_tell p_X8_tell 29 b_X8_tell_5 := fun K jp hj =>
    z_iconst (n := -1) (zd (i := .iconst (-1)) (n := 1) (by decide +kernel)) (by decide +kernel) <|
    z_iret (zd (i := .ireturn) (n := 1) (by decide +kernel)) rfl
noncomputable def b_X8_tell_6 : zBl := fun jp K => oAld 0 <| oGetR 8 7 <| oIld 1 <| oIld 2 <| oAld 0 <| oGetR 8 2 <| oGetI 4 0 <| oIld 3 <| oB2 zadd <| oCv 7 3 gs_X7_put <| oIret K
theorem s_X8_tell_6 (d : Nat) : zPb l G gh (d + 2) n_X8_tell p_X8_tell 31 b_X8_tell_6 := fun K jp hj =>
    z_aload_n (n := 0) (i := 0) (zd (i := .aload_n 0) (n := 1) (by decide +kernel)) rfl <|
    z_getR (ci := 8) (j := 7) (idx := 51) (zd (i := .getfield 51) (n := 3) (by decide +kernel)) (by decide +kernel) (by decide +kernel) rfl g459 <|
    z_iload_n (n := 1) (i := 1) (zd (i := .iload_n 1) (n := 1) (by decide +kernel)) rfl <|
    z_iload_n (n := 2) (i := 2) (zd (i := .iload_n 2) (n := 1) (by decide +kernel)) rfl <|
    z_aload_n (n := 0) (i := 0) (zd (i := .aload_n 0) (n := 1) (by decide +kernel)) rfl <|
    z_getR (ci := 8) (j := 2) (idx := 26) (zd (i := .getfield 26) (n := 3) (by decide +kernel)) (by decide +kernel) (by decide +kernel) rfl g454 <|
    z_getI (ci := 4) (j := 0) (idx := 140) (zd (i := .getfield 140) (n := 3) (by decide +kernel)) (by decide +kernel) (by decide +kernel) rfl g368 <|
    z_iload_n (n := 3) (i := 3) (zd (i := .iload_n 3) (n := 1) (by decide +kernel)) rfl <|
    z_iadd (zd (i := .iadd) (n := 1) (by decide +kernel)) <|
    z_callV (idx := 297) (ci := 7) (N := n_X7_put) (zd (i := .invokevirtual 297) (n := 3) (by decide +kernel)) to_X7_put g1026 g1027 g1028 (by decide +kernel) rfl rfl rfl (cs_X7_put (l := l) (G := G) (gh := gh) (d)) <|
    z_iret (zd (i := .ireturn) (n := 1) (by decide +kernel)) rfl
noncomputable def t_X8_tell : List zBl := [b_X8_tell_0, b_X8_tell_1, b_X8_tell_2, b_X8_tell_3, b_X8_tell_4, b_X8_tell_5, b_X8_tell_6]
theorem tt_X8_tell (d : Nat) : zT (zPb l G gh (d + 2) n_X8_tell p_X8_tell) t_X8_tell p_X8_tell := ⟨s_X8_tell_0 d, s_X8_tell_1 d, s_X8_tell_2 d, s_X8_tell_3 d, s_X8_tell_4 d, s_X8_tell_5 d, s_X8_tell_6 d, trivial⟩
def q_X8_tell_0 : List (Nat × Nat) := [(0, zk12), (21, zk22), (249, zk18), (250, zk19), (251, zk19), (252, zk19)]
noncomputable def al_X8_tell_0 : zAq := [(some (.inl 9223372039002259475), [(0, zk12), (21, zk22), (249, zk20), (250, zk21), (251, zk21), (252, zk21)])]
noncomputable def fm_X8_tell_0 : List zFm := [(0, [], (fun vs => [.inr (.ref 0), .inl 8589934591, .inl 8589934591, .inl 8589934591]), (fun vs => zP q_X8_tell_0), (fun vs => Nat.sub (Nat.add 0 0) 0))]
def bf_X8_tell_0 : List Nat := []
theorem r_X8_tell_0_0 : zbox [] (fun vs => zFrun (zpost (zAlq al_X8_tell_0)) 1000 t_X8_tell fm_X8_tell_0 bf_X8_tell_0 (0, vs)) = true := by decide +kernel
set_option maxRecDepth 100000 in
theorem x_X8_tell_0 (d : Nat) : zS l G gh (d + 2) (zpost (zAlq al_X8_tell_0)) n_X8_tell (zn 0 p_X8_tell 0) (zwc (0, [.inr (.ref 0), .inl 8589934591, .inl 8589934591, .inl 8589934591], zP q_X8_tell_0) 0) := zentry (tt_X8_tell d) fm_X8_tell_0 bf_X8_tell_0 1000 (by decide +kernel) rfl ⟨Nat.zero_lt_succ _, trivial⟩ (fun f hf => match f, hf with
  | 0, _ => fun vs hv => (zbox_t r_X8_tell_0_0) vs hv
  | f + 1, h => absurd (show f + 1 < 1 from h) (Nat.not_lt.mpr (Nat.le_add_left 1 f)))
noncomputable def gs_X8_tell_0 : zMt := zgq false [] 4 [.inr (.ref 0), .inl 8589934591, .inl 8589934591, .inl 8589934591] q_X8_tell_0 al_X8_tell_0
set_option maxRecDepth 100000 in
theorem cs_X8_tell_0 (d : Nat) : zC l G gh (d + 2) n_X8_tell gs_X8_tell_0 := zgq_ok0 (pcs := p_X8_tell) (by decide) rfl rfl (fun a ha => by simp only [al_X8_tell_0, List.mem_cons, List.not_mem_nil, or_false] at ha; rcases ha with rfl <;> decide +kernel) (fun gh => x_X8_tell_0 d) (by decide +kernel)
def q_X8_tell_1 : List (Nat × Nat) := [(0, zk13), (21, zk22), (249, zk18), (250, zk19), (251, zk19), (252, zk19)]
noncomputable def al_X8_tell_1 : zAq := [(some (.inl 9223372039002259475), [(0, zk13), (21, zk22), (249, zk20), (250, zk21), (251, zk21), (252, zk21)])]
noncomputable def fm_X8_tell_1 : List zFm := [(0, [], (fun vs => [.inr (.ref 0), .inl 8589934591, .inl 8589934591, .inl 8589934591]), (fun vs => zP q_X8_tell_1), (fun vs => Nat.sub (Nat.add 0 0) 0))]
def bf_X8_tell_1 : List Nat := []
theorem r_X8_tell_1_0 : zbox [] (fun vs => zFrun (zpost (zAlq al_X8_tell_1)) 1000 t_X8_tell fm_X8_tell_1 bf_X8_tell_1 (0, vs)) = true := by decide +kernel
set_option maxRecDepth 100000 in
theorem x_X8_tell_1 (d : Nat) : zS l G gh (d + 2) (zpost (zAlq al_X8_tell_1)) n_X8_tell (zn 0 p_X8_tell 0) (zwc (0, [.inr (.ref 0), .inl 8589934591, .inl 8589934591, .inl 8589934591], zP q_X8_tell_1) 0) := zentry (tt_X8_tell d) fm_X8_tell_1 bf_X8_tell_1 1000 (by decide +kernel) rfl ⟨Nat.zero_lt_succ _, trivial⟩ (fun f hf => match f, hf with
  | 0, _ => fun vs hv => (zbox_t r_X8_tell_1_0) vs hv
  | f + 1, h => absurd (show f + 1 < 1 from h) (Nat.not_lt.mpr (Nat.le_add_left 1 f)))
noncomputable def gs_X8_tell_1 : zMt := zgq false [] 4 [.inr (.ref 0), .inl 8589934591, .inl 8589934591, .inl 8589934591] q_X8_tell_1 al_X8_tell_1
set_option maxRecDepth 100000 in
theorem cs_X8_tell_1 (d : Nat) : zC l G gh (d + 2) n_X8_tell gs_X8_tell_1 := zgq_ok0 (pcs := p_X8_tell) (by decide) rfl rfl (fun a ha => by simp only [al_X8_tell_1, List.mem_cons, List.not_mem_nil, or_false] at ha; rcases ha with rfl <;> decide +kernel) (fun gh => x_X8_tell_1 d) (by decide +kernel)
noncomputable def gs_X8_tell : zMt := (zor gs_X8_tell_0 gs_X8_tell_1)
theorem cs_X8_tell (d : Nat) : zC l G gh (d + 2) n_X8_tell gs_X8_tell := (zor_ok (cs_X8_tell_0 d) (cs_X8_tell_1 d))
def n_X7_common : qMn := (yX7_common, cX7_common, 5, (some Jvm.ClassFile.FieldType.int), 0, 0)
theorem to_X7_common : qTo n_X7_common 1 := ⟨g1066, g109, ⟨by decide, by decide, by decide +kernel⟩, by decide⟩
def p_X7_common : List Nat := [0, 5, 12, 16, 23, 27, 38, 44, 50, 53, 62, 67, 68, 75]
noncomputable def b_X7_common_0 : zBl := fun jp K => oInt 2147483646 <| oIst 2 <| oInt 2147483648 <| oIst 3 <| jp 1
theorem s_X7_common_0 (d : Nat) : zPb l G gh (d + 2) n_X7_common p_X7_common 0 b_X7_common_0 := fun K jp hj =>
    z_bipush (n := -2) (zd (i := .bipush (-2)) (n := 2) (by decide +kernel)) (by decide +kernel) <|
    z_istore_n (n := 2) (i := 2) (zd (i := .istore_n 2) (n := 1) (by decide +kernel)) rfl (by decide +kernel) <|
    z_iconst (n := 0) (zd (i := .iconst (0)) (n := 1) (by decide +kernel)) (by decide +kernel) <|
    z_istore_n (n := 3) (i := 3) (zd (i := .istore_n 3) (n := 1) (by decide +kernel)) rfl (by decide +kernel) <|
    (zj (hj 1) (by decide +kernel))
noncomputable def b_X7_common_1 : zBl := fun jp K => oNLC 3 2147483828 zgeN zltN zn1_ge zn1_lt (jp 13) (jp 2)
theorem s_X7_common_1 (d : Nat) : zPb l G gh (d + 2) n_X7_common p_X7_common 5 b_X7_common_1 := fun K jp hj =>
    z_nLC_ge (i := 3) (c0 := 2147483828) (a1 := 1) (a2 := 3) (off := 66) (tgt := 75) (zLd_n (n := 3) (i := 3) (zd (i := .iload_n 3) (n := 1) (by decide +kernel)) rfl) (zCn_s (n := 180) (zd (i := .sipush (180)) (n := 3) (by decide +kernel)) (by decide +kernel)) (zd (i := .if_icmp .ge (66)) (n := 3) (by decide +kernel)) (by decide +kernel) (zj (hj 13) (by decide +kernel)) (zj (hj 2) (by decide +kernel))
noncomputable def b_X7_common_2 : zBl := fun jp K => oNLC 1 2147483648 zeqN zneN zn1_eq zn1_ne (jp 4) (jp 3)
theorem s_X7_common_2 (d : Nat) : zPb l G gh (d + 2) n_X7_common p_X7_common 12 b_X7_common_2 := fun K jp hj =>
    z_nL0_eq (i := 1) (a1 := 1) (off := 10) (tgt := 23) (zLd_n (n := 1) (i := 1) (zd (i := .iload_n 1) (n := 1) (by decide +kernel)) rfl) (zd (i := .ifCond .eq (10)) (n := 3) (by decide +kernel)) (by decide +kernel) (zj (hj 4) (by decide +kernel)) (zj (hj 3) (by decide +kernel))
noncomputable def b_X7_common_3 : zBl := fun jp K => oIld 3 <| oCs 1 f_X7_xOf <| jp 5
theorem s_X7_common_3 (d : Nat) : zPb l G gh (d + 2) n_X7_common p_X7_common 16 b_X7_common_3 := fun K jp hj =>
    z_iload_n (n := 3) (i := 3) (zd (i := .iload_n 3) (n := 1) (by decide +kernel)) rfl <|
    z_callS (idx := 46) (N := n_X7_xOf) (zd (i := .invokestatic 46) (n := 3) (by decide +kernel)) to_X7_xOf g1051 g1052 rfl rfl (c_X7_xOf (l := l) (G := G) (gh := gh) (d)) <|
    z_goto (off := 7) (tgt := 27) (zd (i := .goto (7)) (n := 3) (by decide +kernel)) (by decide +kernel) (zj (hj 5) (by decide +kernel))
noncomputable def b_X7_common_4 : zBl := fun jp K => oIld 3 <| oCs 1 f_X7_tallOf <| jp 5
theorem s_X7_common_4 (d : Nat) : zPb l G gh (d + 2) n_X7_common p_X7_common 23 b_X7_common_4 := fun K jp hj =>
    z_iload_n (n := 3) (i := 3) (zd (i := .iload_n 3) (n := 1) (by decide +kernel)) rfl <|
    z_callS (idx := 49) (N := n_X7_tallOf) (zd (i := .invokestatic 49) (n := 3) (by decide +kernel)) to_X7_tallOf g1054 g1055 rfl rfl (c_X7_tallOf (l := l) (G := G) (gh := gh) (d)) <|
    (zj (hj 5) (by decide +kernel))
noncomputable def b_X7_common_5 : zBl := fun jp K => oIst 4 <| oAld 0 <| oGetR 7 4 <| oIld 3 <| oXald 12 <| oIf zeq zne (jp 9) (jp 6)
theorem s_X7_common_5 (d : Nat) : zPb l G gh (d + 2) n_X7_common p_X7_common 27 b_X7_common_5 := fun K jp hj =>
    z_istore (i := 4) (zd (i := .istore 4) (n := 2) (by decide +kernel)) (by decide +kernel) <|
    z_aload_n (n := 0) (i := 0) (zd (i := .aload_n 0) (n := 1) (by decide +kernel)) rfl <|
    z_getR (ci := 7) (j := 4) (idx := 25) (zd (i := .getfield 25) (n := 3) (by decide +kernel)) (by decide +kernel) (by decide +kernel) rfl g434 <|
    z_iload_n (n := 3) (i := 3) (zd (i := .iload_n 3) (n := 1) (by decide +kernel)) rfl <|
    z_zald (zd (i := .baload) (n := 1) (by decide +kernel)) <|
    z_if_eq (off := 18) (tgt := 53) (zd (i := .ifCond .eq (18)) (n := 3) (by decide +kernel)) (by decide +kernel) (zj (hj 9) (by decide +kernel)) (zj (hj 6) (by decide +kernel))
noncomputable def b_X7_common_6 : zBl := fun jp K => oNLC 2 2147483646 zeqN zneN zn1_eq zn1_ne (jp 9) (jp 7)
theorem s_X7_common_6 (d : Nat) : zPb l G gh (d + 2) n_X7_common p_X7_common 38 b_X7_common_6 := fun K jp hj =>
    z_nLC_eq (i := 2) (c0 := 2147483646) (a1 := 1) (a2 := 2) (off := 12) (tgt := 53) (zLd_n (n := 2) (i := 2) (zd (i := .iload_n 2) (n := 1) (by decide +kernel)) rfl) (zCn_b (n := -2) (zd (i := .bipush (-2)) (n := 2) (by decide +kernel)) (by decide +kernel)) (zd (i := .if_icmp .eq (12)) (n := 3) (by decide +kernel)) (by decide +kernel) (zj (hj 9) (by decide +kernel)) (zj (hj 7) (by decide +kernel))
noncomputable def b_X7_common_7 : zBl := fun jp K => oNLL 2 4 zeqN zneN zn1_eq zn2_eq zn1_ne zn2_ne (jp 9) (jp 8)
theorem s_X7_common_7 (d : Nat) : zPb l G gh (d + 2) n_X7_common p_X7_common 44 b_X7_common_7 := fun K jp hj =>
    z_nLL_eq (i := 2) (j := 4) (a1 := 1) (a2 := 2) (off := 6) (tgt := 53) (zLd_n (n := 2) (i := 2) (zd (i := .iload_n 2) (n := 1) (by decide +kernel)) rfl) (zLd_w (i := 4) (zd (i := .iload 4) (n := 2) (by decide +kernel))) (zd (i := .if_icmp .eq (6)) (n := 3) (by decide +kernel)) (by decide +kernel) (zj (hj 9) (by decide +kernel)) (zj (hj 8) (by decide +kernel))
noncomputable def b_X7_common_8 : zBl := fun jp K => oInt 2147483646 <| oIret K
theorem s_X7_common_8 (d : Nat) : zPb l G gh (d + 2) n_X7_common p_X7_common 50 b_X7_common_8 := fun K jp hj =>
    z_bipush (n := -2) (zd (i := .bipush (-2)) (n := 2) (by decide +kernel)) (by decide +kernel) <|
    z_iret (zd (i := .ireturn) (n := 1) (by decide +kernel)) rfl
noncomputable def b_X7_common_9 : zBl := fun jp K => oAld 0 <| oGetR 7 4 <| oIld 3 <| oXald 12 <| oIf zeq zne (jp 11) (jp 10)
theorem s_X7_common_9 (d : Nat) : zPb l G gh (d + 2) n_X7_common p_X7_common 53 b_X7_common_9 := fun K jp hj =>
    z_aload_n (n := 0) (i := 0) (zd (i := .aload_n 0) (n := 1) (by decide +kernel)) rfl <|
    z_getR (ci := 7) (j := 4) (idx := 25) (zd (i := .getfield 25) (n := 3) (by decide +kernel)) (by decide +kernel) (by decide +kernel) rfl g434 <|
    z_iload_n (n := 3) (i := 3) (zd (i := .iload_n 3) (n := 1) (by decide +kernel)) rfl <|
    z_zald (zd (i := .baload) (n := 1) (by decide +kernel)) <|
    z_if_eq (off := 8) (tgt := 67) (zd (i := .ifCond .eq (8)) (n := 3) (by decide +kernel)) (by decide +kernel) (zj (hj 11) (by decide +kernel)) (zj (hj 10) (by decide +kernel))
noncomputable def b_X7_common_10 : zBl := fun jp K => oIld 4 <| jp 12
theorem s_X7_common_10 (d : Nat) : zPb l G gh (d + 2) n_X7_common p_X7_common 62 b_X7_common_10 := fun K jp hj =>
    z_iload (i := 4) (zd (i := .iload 4) (n := 2) (by decide +kernel)) <|
    z_goto (off := 4) (tgt := 68) (zd (i := .goto (4)) (n := 3) (by decide +kernel)) (by decide +kernel) (zj (hj 12) (by decide +kernel))
noncomputable def b_X7_common_11 : zBl := fun jp K => oIld 2 <| jp 12
theorem s_X7_common_11 (d : Nat) : zPb l G gh (d + 2) n_X7_common p_X7_common 67 b_X7_common_11 := fun K jp hj =>
    z_iload_n (n := 2) (i := 2) (zd (i := .iload_n 2) (n := 1) (by decide +kernel)) rfl <|
    (zj (hj 12) (by decide +kernel))
noncomputable def b_X7_common_12 : zBl := fun jp K => oIst 2 <| oInc 3 2147483649 <| jp 1
theorem s_X7_common_12 (d : Nat) : zPb l G gh (d + 2) n_X7_common p_X7_common 68 b_X7_common_12 := fun K jp hj =>
    z_istore_n (n := 2) (i := 2) (zd (i := .istore_n 2) (n := 1) (by decide +kernel)) rfl (by decide +kernel) <|
    z_iinc (i := 3) (n := 1) (zd (i := .iinc 3 (1)) (n := 3) (by decide +kernel)) (by decide +kernel) (by decide +kernel) <|
    z_goto (off := -67) (tgt := 5) (zd (i := .goto (-67)) (n := 3) (by decide +kernel)) (by decide +kernel) (zj (hj 1) (by decide +kernel))
noncomputable def b_X7_common_13 : zBl := fun jp K => oIld 2 <| oIret K
theorem s_X7_common_13 (d : Nat) : zPb l G gh (d + 2) n_X7_common p_X7_common 75 b_X7_common_13 := fun K jp hj =>
    z_iload_n (n := 2) (i := 2) (zd (i := .iload_n 2) (n := 1) (by decide +kernel)) rfl <|
    z_iret (zd (i := .ireturn) (n := 1) (by decide +kernel)) rfl
noncomputable def t_X7_common : List zBl := [b_X7_common_0, b_X7_common_1, b_X7_common_2, b_X7_common_3, b_X7_common_4, b_X7_common_5, b_X7_common_6, b_X7_common_7, b_X7_common_8, b_X7_common_9, b_X7_common_10, b_X7_common_11, b_X7_common_12, b_X7_common_13]
theorem tt_X7_common (d : Nat) : zT (zPb l G gh (d + 2) n_X7_common p_X7_common) t_X7_common p_X7_common := ⟨s_X7_common_0 d, s_X7_common_1 d, s_X7_common_2 d, s_X7_common_3 d, s_X7_common_4 d, s_X7_common_5 d, s_X7_common_6 d, s_X7_common_7 d, s_X7_common_8 d, s_X7_common_9 d, s_X7_common_10 d, s_X7_common_11 d, s_X7_common_12 d, s_X7_common_13 d, trivial⟩
def q_X7_common_0 : List (Nat × Nat) := [(249, zk18), (253, zk99)]
noncomputable def al_X7_common_0 : zAq := [(some (.inl 9223372034707292179), [(249, zk18), (253, zk99)])]
noncomputable def fm_X7_common_0 : List zFm := [(0, [], (fun vs => [.inr (.ref 249), .inl 9223372043297226753]), (fun vs => zP q_X7_common_0), (fun vs => Nat.sub (Nat.add 181 0) 0)),
  (1, [(3, 2147483648, 2147483828)], (fun vs => [.inr (.ref 249), .inl 9223372043297226753, .inl 9223372034707292179, .inl (zn 0 vs 0)]), (fun vs => zP q_X7_common_0), (fun vs => Nat.sub (Nat.add 2147483828 0) (Nat.add 0 (Nat.mul 1 (zn 0 vs 0)))))]
def bf_X7_common_0 : List Nat := [0, 2]
theorem r_X7_common_0_0 : zbox [] (fun vs => zFrun (zpost (zAlq al_X7_common_0)) 1000 t_X7_common fm_X7_common_0 bf_X7_common_0 (0, vs)) = true := by decide +kernel
theorem r_X7_common_0_1 : zbox [(3, 2147483648, 2147483828)] (fun vs => zFrun (zpost (zAlq al_X7_common_0)) 1000 t_X7_common fm_X7_common_0 bf_X7_common_0 (1, vs)) = true := by decide +kernel
set_option maxRecDepth 100000 in
theorem x_X7_common_0 (d : Nat) : zS l G gh (d + 2) (zpost (zAlq al_X7_common_0)) n_X7_common (zn 0 p_X7_common 0) (zwc (0, [.inr (.ref 249), .inl 9223372043297226753], zP q_X7_common_0) 0) := zentry (tt_X7_common d) fm_X7_common_0 bf_X7_common_0 1000 (by decide +kernel) rfl ⟨Nat.zero_lt_succ _, trivial⟩ (fun f hf => match f, hf with
  | 0, _ => fun vs hv => (zbox_t r_X7_common_0_0) vs hv
  | 1, _ => fun vs hv => (zbox_t r_X7_common_0_1) vs hv
  | f + 2, h => absurd (show f + 2 < 2 from h) (Nat.not_lt.mpr (Nat.le_add_left 2 f)))
noncomputable def gs_X7_common_0 : zMt := zgq false [] 5 [.inr (.ref 249), .inl 9223372043297226753] q_X7_common_0 al_X7_common_0
set_option maxRecDepth 100000 in
theorem cs_X7_common_0 (d : Nat) : zC l G gh (d + 2) n_X7_common gs_X7_common_0 := zgq_ok0 (pcs := p_X7_common) (by decide) rfl rfl (fun a ha => by simp only [al_X7_common_0, List.mem_cons, List.not_mem_nil, or_false] at ha; rcases ha with rfl <;> decide +kernel) (fun gh => x_X7_common_0 d) (by decide +kernel)
noncomputable def gs_X7_common : zMt := gs_X7_common_0
theorem cs_X7_common (d : Nat) : zC l G gh (d + 2) n_X7_common gs_X7_common := (cs_X7_common_0 d)
end
