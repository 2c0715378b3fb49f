section
variable {l : Launch} {G : qG} {gh : zGh}
def n_X9_place : qMn := (yX9_place, cX9_place, 1, (some Jvm.ClassFile.FieldType.int), 0, 0)
theorem to_X9_place : qTo n_X9_place 0 := ⟨g1433, g110, ⟨by decide, by decide, by decide +kernel⟩, by decide⟩
def p_X9_place : List Nat := [0]
noncomputable def b_X9_place_0 : zBl := fun jp K => oAld 0 <| oGetI 9 17 <| oIret K
theorem s_X9_place_0 (d : Nat) : zPb l G gh (d + 1) n_X9_place p_X9_place 0 b_X9_place_0 := fun K jp hj =>
    z_aload_n (n := 0) (i := 0) (zd (i := .aload_n 0) (n := 1) (by decide +kernel)) rfl <|
    z_getI (ci := 9) (j := 17) (idx := 37) (zd (i := .getfield 37) (n := 3) (by decide +kernel)) (by decide +kernel) (by decide +kernel) rfl g1145 <|
    z_iret (zd (i := .ireturn) (n := 1) (by decide +kernel)) rfl
noncomputable def t_X9_place : List zBl := [b_X9_place_0]
theorem tt_X9_place (d : Nat) : zT (zPb l G gh (d + 1) n_X9_place p_X9_place) t_X9_place p_X9_place := ⟨s_X9_place_0 d, trivial⟩
def q_X9_place_0 : List (Nat × Nat) := [(292, zk102)]
noncomputable def al_X9_place_0 : zAq := [(some (.inl 8589934591), [(292, zk102)])]
noncomputable def fm_X9_place_0 : List zFm := [(0, [], (fun vs => [.inr (.ref 292)]), (fun vs => zP q_X9_place_0), (fun vs => Nat.sub (Nat.add 0 0) 0))]
def bf_X9_place_0 : List Nat := []
theorem r_X9_place_0_0 : zbox [] (fun vs => zFrun (zpost (zAlq al_X9_place_0)) 1000 t_X9_place fm_X9_place_0 bf_X9_place_0 (0, vs)) = true := by decide +kernel
set_option maxRecDepth 100000 in
theorem x_X9_place_0 (d : Nat) : zS l G gh (d + 1) (zpost (zAlq al_X9_place_0)) n_X9_place (zn 0 p_X9_place 0) (zwc (0, [.inr (.ref 292)], zP q_X9_place_0) 0) := zentry (tt_X9_place d) fm_X9_place_0 bf_X9_place_0 1000 (by decide +kernel) rfl ⟨Nat.zero_lt_succ _, trivial⟩ (fun f hf => match f, hf with
  | 0, _ => fun vs hv => (zbox_t r_X9_place_0_0) vs hv
  | f + 1, h => absurd (show f + 1 < 1 from h) (Nat.not_lt.mpr (Nat.le_add_left 1 f)))
noncomputable def gs_X9_place_0 : zMt := zgq false [] 1 [.inr (.ref 292)] q_X9_place_0 al_X9_place_0
set_option maxRecDepth 100000 in
theorem cs_X9_place_0 (d : Nat) : zC l G gh (d + 1) n_X9_place gs_X9_place_0 := zgq_ok0 (pcs := p_X9_place) (by decide) rfl rfl (fun a ha => by simp only [al_X9_place_0, List.mem_cons, List.not_mem_nil, or_false] at ha; rcases ha with rfl <;> decide +kernel) (fun gh => x_X9_place_0 d) (by decide +kernel)
noncomputable def gs_X9_place : zMt := gs_X9_place_0
theorem cs_X9_place (d : Nat) : zC l G gh (d + 1) n_X9_place gs_X9_place := (cs_X9_place_0 d)
def n_X9_in : qMn := (yX9_in, cX9_in, 3, (some Jvm.ClassFile.FieldType.boolean), 0, 0)
theorem to_X9_in : qTo n_X9_in 3 := ⟨g1444, g110, ⟨by decide, by decide, by decide +kernel⟩, by decide⟩
def p_X9_in : List Nat := [0, 5, 10, 14, 15]
noncomputable def b_X9_in_0 : zBl := fun jp K => oNLL 0 1 zltN zgeN zn1_lt zn2_lt zn1_ge zn2_ge (jp 3) (jp 1)
theorem s_X9_in_0 (d : Nat) : zPb l G gh (d + 1) n_X9_in p_X9_in 0 b_X9_in_0 := fun K jp hj =>
    z_nLL_lt (i := 0) (j := 1) (a1 := 1) (a2 := 1) (off := 12) (tgt := 14) (zLd_n (n := 0) (i := 0) (zd (i := .iload_n 0) (n := 1) (by decide +kernel)) rfl) (zLd_n (n := 1) (i := 1) (zd (i := .iload_n 1) (n := 1) (by decide +kernel)) rfl) (zd (i := .if_icmp .lt (12)) (n := 3) (by decide +kernel)) (by decide +kernel) (zj (hj 3) (by decide +kernel)) (zj (hj 1) (by decide +kernel))
noncomputable def b_X9_in_1 : zBl := fun jp K => oNLL 0 2 zgtN zleN zn1_gt zn2_gt zn1_le zn2_le (jp 3) (jp 2)
theorem s_X9_in_1 (d : Nat) : zPb l G gh (d + 1) n_X9_in p_X9_in 5 b_X9_in_1 := fun K jp hj =>
    z_nLL_gt (i := 0) (j := 2) (a1 := 1) (a2 := 1) (off := 7) (tgt := 14) (zLd_n (n := 0) (i := 0) (zd (i := .iload_n 0) (n := 1) (by decide +kernel)) rfl) (zLd_n (n := 2) (i := 2) (zd (i := .iload_n 2) (n := 1) (by decide +kernel)) rfl) (zd (i := .if_icmp .gt (7)) (n := 3) (by decide +kernel)) (by decide +kernel) (zj (hj 3) (by decide +kernel)) (zj (hj 2) (by decide +kernel))
noncomputable def b_X9_in_2 : zBl := fun jp K => oInt 2147483649 <| jp 4
theorem s_X9_in_2 (d : Nat) : zPb l G gh (d + 1) n_X9_in p_X9_in 10 b_X9_in_2 := fun K jp hj =>
    z_iconst (n := 1) (zd (i := .iconst (1)) (n := 1) (by decide +kernel)) (by decide +kernel) <|
    z_goto (off := 4) (tgt := 15) (zd (i := .goto (4)) (n := 3) (by decide +kernel)) (by decide +kernel) (zj (hj 4) (by decide +kernel))
noncomputable def b_X9_in_3 : zBl := fun jp K => oInt 2147483648 <| jp 4
theorem s_X9_in_3 (d : Nat) : zPb l G gh (d + 1) n_X9_in p_X9_in 14 b_X9_in_3 := fun K jp hj =>
    z_iconst (n := 0) (zd (i := .iconst (0)) (n := 1) (by decide +kernel)) (by decide +kernel) <|
    (zj (hj 4) (by decide +kernel))
noncomputable def b_X9_in_4 : zBl := fun jp K => oZret K
theorem s_X9_in_4 (d : Nat) : zPb l G gh (d + 1) n_X9_in p_X9_in 15 b_X9_in_4 := fun K jp hj =>
    z_zret (zd (i := .ireturn) (n := 1) (by decide +kernel)) rfl
noncomputable def t_X9_in : List zBl := [b_X9_in_0, b_X9_in_1, b_X9_in_2, b_X9_in_3, b_X9_in_4]
theorem tt_X9_in (d : Nat) : zT (zPb l G gh (d + 1) n_X9_in p_X9_in) t_X9_in p_X9_in := ⟨s_X9_in_0 d, s_X9_in_1 d, s_X9_in_2 d, s_X9_in_3 d, s_X9_in_4 d, trivial⟩
noncomputable def f_X9_in : zMt := zmet 3 t_X9_in
theorem c_X9_in (d : Nat) : zC l G gh (d + 1) n_X9_in f_X9_in := zmet_ok (pcs := p_X9_in) (by decide) rfl rfl (tt_X9_in d)
def n_X9_copies : qMn := (yX9_copies, cX9_copies, 2, none, 0, 0)
theorem to_X9_copies : qTo n_X9_copies 0 := ⟨g1448, g110, ⟨by decide, by decide, by decide +kernel⟩, by decide⟩
def p_X9_copies : List Nat := [0, 2, 8, 26]
noncomputable def b_X9_copies_0 : zBl := fun jp K => oInt 2147483648 <| oIst 1 <| jp 1
theorem s_X9_copies_0 (d : Nat) : zPb l G gh (d + 1) n_X9_copies p_X9_copies 0 b_X9_copies_0 := fun K jp hj =>
    z_iconst (n := 0) (zd (i := .iconst (0)) (n := 1) (by decide +kernel)) (by decide +kernel) <|
    z_istore_n (n := 1) (i := 1) (zd (i := .istore_n 1) (n := 1) (by decide +kernel)) rfl (by decide +kernel) <|
    (zj (hj 1) (by decide +kernel))
noncomputable def b_X9_copies_1 : zBl := fun jp K => oNLC 1 2147483745 zgeN zltN zn1_ge zn1_lt (jp 3) (jp 2)
theorem s_X9_copies_1 (d : Nat) : zPb l G gh (d + 1) n_X9_copies p_X9_copies 2 b_X9_copies_1 := fun K jp hj =>
    z_nLC_ge (i := 1) (c0 := 2147483745) (a1 := 1) (a2 := 2) (off := 21) (tgt := 26) (zLd_n (n := 1) (i := 1) (zd (i := .iload_n 1) (n := 1) (by decide +kernel)) rfl) (zCn_b (n := 97) (zd (i := .bipush (97)) (n := 2) (by decide +kernel)) (by decide +kernel)) (zd (i := .if_icmp .ge (21)) (n := 3) (by decide +kernel)) (by decide +kernel) (zj (hj 3) (by decide +kernel)) (zj (hj 2) (by decide +kernel))
noncomputable def b_X9_copies_2 : zBl := fun jp K => oAld 0 <| oGetR 9 49 <| oIld 1 <| oAld 0 <| oGetR 9 48 <| oIld 1 <| oXald 10 <| oXast 10 zid <| oInc 1 2147483649 <| jp 1
theorem s_X9_copies_2 (d : Nat) : zPb l G gh (d + 1) n_X9_copies p_X9_copies 8 b_X9_copies_2 := fun K jp hj =>
    z_aload_n (n := 0) (i := 0) (zd (i := .aload_n 0) (n := 1) (by decide +kernel)) rfl <|
    z_getR (ci := 9) (j := 49) (idx := 113) (zd (i := .getfield 113) (n := 3) (by decide +kernel)) (by decide +kernel) (by decide +kernel) rfl g1177 <|
    z_iload_n (n := 1) (i := 1) (zd (i := .iload_n 1) (n := 1) (by decide +kernel)) rfl <|
    z_aload_n (n := 0) (i := 0) (zd (i := .aload_n 0) (n := 1) (by decide +kernel)) rfl <|
    z_getR (ci := 9) (j := 48) (idx := 110) (zd (i := .getfield 110) (n := 3) (by decide +kernel)) (by decide +kernel) (by decide +kernel) rfl g1176 <|
    z_iload_n (n := 1) (i := 1) (zd (i := .iload_n 1) (n := 1) (by decide +kernel)) rfl <|
    z_iald (zd (i := .iaload) (n := 1) (by decide +kernel)) <|
    z_iast (zd (i := .iastore) (n := 1) (by decide +kernel)) <|
    z_iinc (i := 1) (n := 1) (zd (i := .iinc 1 (1)) (n := 3) (by decide +kernel)) (by decide +kernel) (by decide +kernel) <|
    z_goto (off := -21) (tgt := 2) (zd (i := .goto (-21)) (n := 3) (by decide +kernel)) (by decide +kernel) (zj (hj 1) (by decide +kernel))
noncomputable def b_X9_copies_3 : zBl := fun jp K => oAld 0 <| oAld 0 <| oGetR 9 31 <| oAld 0 <| oGetI 9 18 <| oXald 10 <| oPutI 9 50 <| oVret K
theorem s_X9_copies_3 (d : Nat) : zPb l G gh (d + 1) n_X9_copies p_X9_copies 26 b_X9_copies_3 := fun K jp hj =>
    z_aload_n (n := 0) (i := 0) (zd (i := .aload_n 0) (n := 1) (by decide +kernel)) rfl <|
    z_aload_n (n := 0) (i := 0) (zd (i := .aload_n 0) (n := 1) (by decide +kernel)) rfl <|
    z_getR (ci := 9) (j := 31) (idx := 70) (zd (i := .getfield 70) (n := 3) (by decide +kernel)) (by decide +kernel) (by decide +kernel) rfl g1159 <|
    z_aload_n (n := 0) (i := 0) (zd (i := .aload_n 0) (n := 1) (by decide +kernel)) rfl <|
    z_getI (ci := 9) (j := 18) (idx := 230) (zd (i := .getfield 230) (n := 3) (by decide +kernel)) (by decide +kernel) (by decide +kernel) rfl g1146 <|
    z_iald (zd (i := .iaload) (n := 1) (by decide +kernel)) <|
    z_putI (ci := 9) (j := 50) (idx := 308) (zd (i := .putfield 308) (n := 3) (by decide +kernel)) (by decide +kernel) (by decide +kernel) rfl g1178 (Or.inl rfl) <|
    z_vret (zd (i := .return_) (n := 1) (by decide +kernel)) rfl
noncomputable def t_X9_copies : List zBl := [b_X9_copies_0, b_X9_copies_1, b_X9_copies_2, b_X9_copies_3]
theorem tt_X9_copies (d : Nat) : zT (zPb l G gh (d + 1) n_X9_copies p_X9_copies) t_X9_copies p_X9_copies := ⟨s_X9_copies_0 d, s_X9_copies_1 d, s_X9_copies_2 d, s_X9_copies_3 d, trivial⟩
def q_X9_copies_0 : List (Nat × Nat) := [(292, zk102), (310, zk103), (323, zk104), (324, zk104)]
noncomputable def al_X9_copies_0 : zAq := [(none, [(292, zk105), (310, zk103), (323, zk104), (324, zk106)])]
def mq_X9_copies_0_1 : List (Nat × Nat) := [(292, zk102), (310, zk103), (323, zk104), (324, zk106)]
noncomputable def fm_X9_copies_0 : List zFm := [(0, [], (fun vs => [.inr (.ref 292)]), (fun vs => zP q_X9_copies_0), (fun vs => Nat.sub (Nat.add 98 0) 0)),
  (1, [(1, 2147483648, 2147483745)], (fun vs => [.inr (.ref 292), .inl (zn 0 vs 0)]), (fun vs => zP mq_X9_copies_0_1), (fun vs => Nat.sub (Nat.add 2147483745 0) (Nat.add 0 (Nat.mul 1 (zn 0 vs 0)))))]
def bf_X9_copies_0 : List Nat := [0, 2]
theorem r_X9_copies_0_0 : zbox [] (fun vs => zFrun (zpost (zAlq al_X9_copies_0)) 1000 t_X9_copies fm_X9_copies_0 bf_X9_copies_0 (0, vs)) = true := by decide +kernel
theorem r_X9_copies_0_1 : zbox [(1, 2147483648, 2147483745)] (fun vs => zFrun (zpost (zAlq al_X9_copies_0)) 1000 t_X9_copies fm_X9_copies_0 bf_X9_copies_0 (1, vs)) = true := by decide +kernel
set_option maxRecDepth 100000 in
theorem x_X9_copies_0 (d : Nat) : zS l G gh (d + 1) (zpost (zAlq al_X9_copies_0)) n_X9_copies (zn 0 p_X9_copies 0) (zwc (0, [.inr (.ref 292)], zP q_X9_copies_0) 0) := zentry (tt_X9_copies d) fm_X9_copies_0 bf_X9_copies_0 1000 (by decide +kernel) rfl ⟨Nat.zero_lt_succ _, trivial⟩ (fun f hf => match f, hf with
  | 0, _ => fun vs hv => (zbox_t r_X9_copies_0_0) vs hv
  | 1, _ => fun vs hv => (zbox_t r_X9_copies_0_1) vs hv
  | f + 2, h => absurd (show f + 2 < 2 from h) (Nat.not_lt.mpr (Nat.le_add_left 2 f)))
noncomputable def gs_X9_copies_0 : zMt := zgq false [] 2 [.inr (.ref 292)] q_X9_copies_0 al_X9_copies_0
set_option maxRecDepth 100000 in
theorem cs_X9_copies_0 (d : Nat) : zC l G gh (d + 1) n_X9_copies gs_X9_copies_0 := zgq_ok0 (pcs := p_X9_copies) (by decide) rfl rfl (fun a ha => by simp only [al_X9_copies_0, List.mem_cons, List.not_mem_nil, or_false] at ha; rcases ha with rfl <;> decide +kernel) (fun gh => x_X9_copies_0 d) (by decide +kernel)
noncomputable def gs_X9_copies : zMt := gs_X9_copies_0
theorem cs_X9_copies (d : Nat) : zC l G gh (d + 1) n_X9_copies gs_X9_copies := (cs_X9_copies_0 d)
def n_X9_looks : qMn := (yX9_looks, cX9_looks, 3, none, 0, 0)
theorem to_X9_looks : qTo n_X9_looks 1 := ⟨g1468, g110, ⟨by decide, by decide, by decide +kernel⟩, by decide⟩
def p_X9_looks : List Nat := [0, 2, 8, 21]
noncomputable def b_X9_looks_0 : zBl := fun jp K => oInt 2147483648 <| oIst 2 <| jp 1
theorem s_X9_looks_0 (d : Nat) : zPb l G gh (d + 1) n_X9_looks p_X9_looks 0 b_X9_looks_0 := fun K jp hj =>
    z_iconst (n := 0) (zd (i := .iconst (0)) (n := 1) (by decide +kernel)) (by decide +kernel) <|
    z_istore_n (n := 2) (i := 2) (zd (i := .istore_n 2) (n := 1) (by decide +kernel)) rfl (by decide +kernel) <|
    (zj (hj 1) (by decide +kernel))
noncomputable def b_X9_looks_1 : zBl := fun jp K => oNLC 2 2147483657 zgeN zltN zn1_ge zn1_lt (jp 3) (jp 2)
theorem s_X9_looks_1 (d : Nat) : zPb l G gh (d + 1) n_X9_looks p_X9_looks 2 b_X9_looks_1 := fun K jp hj =>
    z_nLC_ge (i := 2) (c0 := 2147483657) (a1 := 1) (a2 := 2) (off := 16) (tgt := 21) (zLd_n (n := 2) (i := 2) (zd (i := .iload_n 2) (n := 1) (by decide +kernel)) rfl) (zCn_b (n := 9) (zd (i := .bipush (9)) (n := 2) (by decide +kernel)) (by decide +kernel)) (zd (i := .if_icmp .ge (16)) (n := 3) (by decide +kernel)) (by decide +kernel) (zj (hj 3) (by decide +kernel)) (zj (hj 2) (by decide +kernel))
noncomputable def b_X9_looks_2 : zBl := fun jp K => oAld 0 <| oGetR 9 45 <| oIld 2 <| oInt 2147483648 <| oXast 10 zid <| oInc 2 2147483649 <| jp 1
theorem s_X9_looks_2 (d : Nat) : zPb l G gh (d + 1) n_X9_looks p_X9_looks 8 b_X9_looks_2 := fun K jp hj =>
    z_aload_n (n := 0) (i := 0) (zd (i := .aload_n 0) (n := 1) (by decide +kernel)) rfl <|
    z_getR (ci := 9) (j := 45) (idx := 104) (zd (i := .getfield 104) (n := 3) (by decide +kernel)) (by decide +kernel) (by decide +kernel) rfl g1173 <|
    z_iload_n (n := 2) (i := 2) (zd (i := .iload_n 2) (n := 1) (by decide +kernel)) rfl <|
    z_iconst (n := 0) (zd (i := .iconst (0)) (n := 1) (by decide +kernel)) (by decide +kernel) <|
    z_iast (zd (i := .iastore) (n := 1) (by decide +kernel)) <|
    z_iinc (i := 2) (n := 1) (zd (i := .iinc 2 (1)) (n := 3) (by decide +kernel)) (by decide +kernel) (by decide +kernel) <|
    z_goto (off := -16) (tgt := 2) (zd (i := .goto (-16)) (n := 3) (by decide +kernel)) (by decide +kernel) (zj (hj 1) (by decide +kernel))
noncomputable def b_X9_looks_3 : zBl := fun jp K => oAld 0 <| oGetR 9 45 <| oInt 2147483648 <| oIld 1 <| oInt 2147483672 <| oB2z zirem <| oXast 10 zid <| oAld 0 <| oGetR 9 45 <| oInt 2147483649 <| oIld 1 <| oInt 2147483672 <| oB2z zidiv <| oXast 10 zid <| oVret K
theorem s_X9_looks_3 (d : Nat) : zPb l G gh (d + 1) n_X9_looks p_X9_looks 21 b_X9_looks_3 := fun K jp hj =>
    z_aload_n (n := 0) (i := 0) (zd (i := .aload_n 0) (n := 1) (by decide +kernel)) rfl <|
    z_getR (ci := 9) (j := 45) (idx := 104) (zd (i := .getfield 104) (n := 3) (by decide +kernel)) (by decide +kernel) (by decide +kernel) rfl g1173 <|
    z_iconst (n := 0) (zd (i := .iconst (0)) (n := 1) (by decide +kernel)) (by decide +kernel) <|
    z_iload_n (n := 1) (i := 1) (zd (i := .iload_n 1) (n := 1) (by decide +kernel)) rfl <|
    z_bipush (n := 24) (zd (i := .bipush (24)) (n := 2) (by decide +kernel)) (by decide +kernel) <|
    z_irem (zd (i := .irem) (n := 1) (by decide +kernel)) <|
    z_iast (zd (i := .iastore) (n := 1) (by decide +kernel)) <|
    z_aload_n (n := 0) (i := 0) (zd (i := .aload_n 0) (n := 1) (by decide +kernel)) rfl <|
    z_getR (ci := 9) (j := 45) (idx := 104) (zd (i := .getfield 104) (n := 3) (by decide +kernel)) (by decide +kernel) (by decide +kernel) rfl g1173 <|
    z_iconst (n := 1) (zd (i := .iconst (1)) (n := 1) (by decide +kernel)) (by decide +kernel) <|
    z_iload_n (n := 1) (i := 1) (zd (i := .iload_n 1) (n := 1) (by decide +kernel)) rfl <|
    z_bipush (n := 24) (zd (i := .bipush (24)) (n := 2) (by decide +kernel)) (by decide +kernel) <|
    z_idiv (zd (i := .idiv) (n := 1) (by decide +kernel)) <|
    z_iast (zd (i := .iastore) (n := 1) (by decide +kernel)) <|
    z_vret (zd (i := .return_) (n := 1) (by decide +kernel)) rfl
noncomputable def t_X9_looks : List zBl := [b_X9_looks_0, b_X9_looks_1, b_X9_looks_2, b_X9_looks_3]
theorem tt_X9_looks (d : Nat) : zT (zPb l G gh (d + 1) n_X9_looks p_X9_looks) t_X9_looks p_X9_looks := ⟨s_X9_looks_0 d, s_X9_looks_1 d, s_X9_looks_2 d, s_X9_looks_3 d, trivial⟩
def q_X9_looks_0 : List (Nat × Nat) := [(292, zk102), (321, zk3)]
noncomputable def al_X9_looks_0 : zAq := [(none, [(292, zk102), (321, zk4)])]
def mq_X9_looks_0_1 : List (Nat × Nat) := [(292, zk102), (321, zk4)]
noncomputable def fm_X9_looks_0 : List zFm := [(0, [], (fun vs => [.inr (.ref 292), .inl 8589934591]), (fun vs => zP q_X9_looks_0), (fun vs => Nat.sub (Nat.add 10 0) 0)),
  (1, [(2, 2147483648, 2147483657)], (fun vs => [.inr (.ref 292), .inl 8589934591, .inl (zn 0 vs 0)]), (fun vs => zP mq_X9_looks_0_1), (fun vs => Nat.sub (Nat.add 2147483657 0) (Nat.add 0 (Nat.mul 1 (zn 0 vs 0)))))]
def bf_X9_looks_0 : List Nat := [0, 2]
theorem r_X9_looks_0_0 : zbox [] (fun vs => zFrun (zpost (zAlq al_X9_looks_0)) 1000 t_X9_looks fm_X9_looks_0 bf_X9_looks_0 (0, vs)) = true := by decide +kernel
theorem r_X9_looks_0_1 : zbox [(2, 2147483648, 2147483657)] (fun vs => zFrun (zpost (zAlq al_X9_looks_0)) 1000 t_X9_looks fm_X9_looks_0 bf_X9_looks_0 (1, vs)) = true := by decide +kernel
set_option maxRecDepth 100000 in
theorem x_X9_looks_0 (d : Nat) : zS l G gh (d + 1) (zpost (zAlq al_X9_looks_0)) n_X9_looks (zn 0 p_X9_looks 0) (zwc (0, [.inr (.ref 292), .inl 8589934591], zP q_X9_looks_0) 0) := zentry (tt_X9_looks d) fm_X9_looks_0 bf_X9_looks_0 1000 (by decide +kernel) rfl ⟨Nat.zero_lt_succ _, trivial⟩ (fun f hf => match f, hf with
  | 0, _ => fun vs hv => (zbox_t r_X9_looks_0_0) vs hv
  | 1, _ => fun vs hv => (zbox_t r_X9_looks_0_1) vs hv
  | f + 2, h => absurd (show f + 2 < 2 from h) (Nat.not_lt.mpr (Nat.le_add_left 2 f)))
noncomputable def gs_X9_looks_0 : zMt := zgq false [] 3 [.inr (.ref 292), .inl 8589934591] q_X9_looks_0 al_X9_looks_0
set_option maxRecDepth 100000 in
theorem cs_X9_looks_0 (d : Nat) : zC l G gh (d + 1) n_X9_looks gs_X9_looks_0 := zgq_ok0 (pcs := p_X9_looks) (by decide) rfl rfl (fun a ha => by simp only [al_X9_looks_0, List.mem_cons, List.not_mem_nil, or_false] at ha; rcases ha with rfl <;> decide +kernel) (fun gh => x_X9_looks_0 d) (by decide +kernel)
noncomputable def gs_X9_looks : zMt := gs_X9_looks_0
theorem cs_X9_looks (d : Nat) : zC l G gh (d + 1) n_X9_looks gs_X9_looks := (cs_X9_looks_0 d)
def n_X9_held : qMn := (yX9_held, cX9_held, 3, (some Jvm.ClassFile.FieldType.int), 0, 0)
theorem to_X9_held : qTo n_X9_held 3 := ⟨g1479, g110, ⟨by decide, by decide, by decide +kernel⟩, by decide⟩
def p_X9_held : List Nat := [0, 5, 9, 14, 18, 19]
noncomputable def b_X9_held_0 : zBl := fun jp K => oNLL 0 1 zgeN zltN zn1_ge zn2_ge zn1_lt zn2_lt (jp 2) (jp 1)
theorem s_X9_held_0 (d : Nat) : zPb l G gh (d + 1) n_X9_held p_X9_held 0 b_X9_held_0 := fun K jp hj =>
    z_nLL_ge (i := 0) (j := 1) (a1 := 1) (a2 := 1) (off := 7) (tgt := 9) (zLd_n (n := 0) (i := 0) (zd (i := .iload_n 0) (n := 1) (by decide +kernel)) rfl) (zLd_n (n := 1) (i := 1) (zd (i := .iload_n 1) (n := 1) (by decide +kernel)) rfl) (zd (i := .if_icmp .ge (7)) (n := 3) (by decide +kernel)) (by decide +kernel) (zj (hj 2) (by decide +kernel)) (zj (hj 1) (by decide +kernel))
noncomputable def b_X9_held_1 : zBl := fun jp K => oIld 1 <| jp 5
theorem s_X9_held_1 (d : Nat) : zPb l G gh (d + 1) n_X9_held p_X9_held 5 b_X9_held_1 := fun K jp hj =>
    z_iload_n (n := 1) (i := 1) (zd (i := .iload_n 1) (n := 1) (by decide +kernel)) rfl <|
    z_goto (off := 13) (tgt := 19) (zd (i := .goto (13)) (n := 3) (by decide +kernel)) (by decide +kernel) (zj (hj 5) (by decide +kernel))
noncomputable def b_X9_held_2 : zBl := fun jp K => oNLL 0 2 zleN zgtN zn1_le zn2_le zn1_gt zn2_gt (jp 4) (jp 3)
theorem s_X9_held_2 (d : Nat) : zPb l G gh (d + 1) n_X9_held p_X9_held 9 b_X9_held_2 := fun K jp hj =>
    z_nLL_le (i := 0) (j := 2) (a1 := 1) (a2 := 1) (off := 7) (tgt := 18) (zLd_n (n := 0) (i := 0) (zd (i := .iload_n 0) (n := 1) (by decide +kernel)) rfl) (zLd_n (n := 2) (i := 2) (zd (i := .iload_n 2) (n := 1) (by decide +kernel)) rfl) (zd (i := .if_icmp .le (7)) (n := 3) (by decide +kernel)) (by decide +kernel) (zj (hj 4) (by decide +kernel)) (zj (hj 3) (by decide +kernel))
noncomputable def b_X9_held_3 : zBl := fun jp K => oIld 2 <| jp 5
theorem s_X9_held_3 (d : Nat) : zPb l G gh (d + 1) n_X9_held p_X9_held 14 b_X9_held_3 := fun K jp hj =>
    z_iload_n (n := 2) (i := 2) (zd (i := .iload_n 2) (n := 1) (by decide +kernel)) rfl <|
    z_goto (off := 4) (tgt := 19) (zd (i := .goto (4)) (n := 3) (by decide +kernel)) (by decide +kernel) (zj (hj 5) (by decide +kernel))
noncomputable def b_X9_held_4 : zBl := fun jp K => oIld 0 <| jp 5
theorem s_X9_held_4 (d : Nat) : zPb l G gh (d + 1) n_X9_held p_X9_held 18 b_X9_held_4 := fun K jp hj =>
    z_iload_n (n := 0) (i := 0) (zd (i := .iload_n 0) (n := 1) (by decide +kernel)) rfl <|
    (zj (hj 5) (by decide +kernel))
noncomputable def b_X9_held_5 : zBl := fun jp K => oIret K
theorem s_X9_held_5 (d : Nat) : zPb l G gh (d + 1) n_X9_held p_X9_held 19 b_X9_held_5 := fun K jp hj =>
    z_iret (zd (i := .ireturn) (n := 1) (by decide +kernel)) rfl
noncomputable def t_X9_held : List zBl := [b_X9_held_0, b_X9_held_1, b_X9_held_2, b_X9_held_3, b_X9_held_4, b_X9_held_5]
theorem tt_X9_held (d : Nat) : zT (zPb l G gh (d + 1) n_X9_held p_X9_held) t_X9_held p_X9_held := ⟨s_X9_held_0 d, s_X9_held_1 d, s_X9_held_2 d, s_X9_held_3 d, s_X9_held_4 d, s_X9_held_5 d, trivial⟩
noncomputable def f_X9_held : zMt := zmet 3 t_X9_held
theorem c_X9_held (d : Nat) : zC l G gh (d + 1) n_X9_held f_X9_held := zmet_ok (pcs := p_X9_held) (by decide) rfl rfl (tt_X9_held d)
def n_X9_off : qMn := (yX9_off, cX9_off, 2, (some Jvm.ClassFile.FieldType.int), 0, 0)
theorem to_X9_off : qTo n_X9_off 2 := ⟨g1482, g110, ⟨by decide, by decide, by decide +kernel⟩, by decide⟩
def p_X9_off : List Nat := [0, 5, 11, 14]
noncomputable def b_X9_off_0 : zBl := fun jp K => oNLL 0 1 zgeN zltN zn1_ge zn2_ge zn1_lt zn2_lt (jp 2) (jp 1)
theorem s_X9_off_0 (d : Nat) : zPb l G gh (d + 1) n_X9_off p_X9_off 0 b_X9_off_0 := fun K jp hj =>
    z_nLL_ge (i := 0) (j := 1) (a1 := 1) (a2 := 1) (off := 9) (tgt := 11) (zLd_n (n := 0) (i := 0) (zd (i := .iload_n 0) (n := 1) (by decide +kernel)) rfl) (zLd_n (n := 1) (i := 1) (zd (i := .iload_n 1) (n := 1) (by decide +kernel)) rfl) (zd (i := .if_icmp .ge (9)) (n := 3) (by decide +kernel)) (by decide +kernel) (zj (hj 2) (by decide +kernel)) (zj (hj 1) (by decide +kernel))
noncomputable def b_X9_off_1 : zBl := fun jp K => oIld 1 <| oIld 0 <| oB2 zsub <| jp 3
theorem s_X9_off_1 (d : Nat) : zPb l G gh (d + 1) n_X9_off p_X9_off 5 b_X9_off_1 := fun K jp hj =>
    z_iload_n (n := 1) (i := 1) (zd (i := .iload_n 1) (n := 1) (by decide +kernel)) rfl <|
    z_iload_n (n := 0) (i := 0) (zd (i := .iload_n 0) (n := 1) (by decide +kernel)) rfl <|
    z_isub (zd (i := .isub) (n := 1) (by decide +kernel)) <|
    z_goto (off := 6) (tgt := 14) (zd (i := .goto (6)) (n := 3) (by decide +kernel)) (by decide +kernel) (zj (hj 3) (by decide +kernel))
noncomputable def b_X9_off_2 : zBl := fun jp K => oIld 0 <| oIld 1 <| oB2 zsub <| jp 3
theorem s_X9_off_2 (d : Nat) : zPb l G gh (d + 1) n_X9_off p_X9_off 11 b_X9_off_2 := fun K jp hj =>
    z_iload_n (n := 0) (i := 0) (zd (i := .iload_n 0) (n := 1) (by decide +kernel)) rfl <|
    z_iload_n (n := 1) (i := 1) (zd (i := .iload_n 1) (n := 1) (by decide +kernel)) rfl <|
    z_isub (zd (i := .isub) (n := 1) (by decide +kernel)) <|
    (zj (hj 3) (by decide +kernel))
noncomputable def b_X9_off_3 : zBl := fun jp K => oIret K
theorem s_X9_off_3 (d : Nat) : zPb l G gh (d + 1) n_X9_off p_X9_off 14 b_X9_off_3 := fun K jp hj =>
    z_iret (zd (i := .ireturn) (n := 1) (by decide +kernel)) rfl
noncomputable def t_X9_off : List zBl := [b_X9_off_0, b_X9_off_1, b_X9_off_2, b_X9_off_3]
theorem tt_X9_off (d : Nat) : zT (zPb l G gh (d + 1) n_X9_off p_X9_off) t_X9_off p_X9_off := ⟨s_X9_off_0 d, s_X9_off_1 d, s_X9_off_2 d, s_X9_off_3 d, trivial⟩
noncomputable def f_X9_off : zMt := zmet 2 t_X9_off
theorem c_X9_off (d : Nat) : zC l G gh (d + 1) n_X9_off f_X9_off := zmet_ok (pcs := p_X9_off) (by decide) rfl rfl (tt_X9_off d)
def n_X9_lentBy : qMn := (yX9_lentBy, cX9_lentBy, 4, (some Jvm.ClassFile.FieldType.int), 0, 0)
theorem to_X9_lentBy : qTo n_X9_lentBy 1 := ⟨g1498, g110, ⟨by decide, by decide, by decide +kernel⟩, by decide⟩
def p_X9_lentBy : List Nat := [0, 4, 17, 40]
noncomputable def b_X9_lentBy_0 : zBl := fun jp K => oInt 2147483648 <| oIst 2 <| oInt 2147483648 <| oIst 3 <| jp 1
theorem s_X9_lentBy_0 (d : Nat) : zPb l G gh (d + 1) n_X9_lentBy p_X9_lentBy 0 b_X9_lentBy_0 := fun K jp hj =>
    z_iconst (n := 0) (zd (i := .iconst (0)) (n := 1) (by decide +kernel)) (by decide +kernel) <|
    z_istore_n (n := 2) (i := 2) (zd (i := .istore_n 2) (n := 1) (by decide +kernel)) rfl (by decide +kernel) <|
    z_iconst (n := 0) (zd (i := .iconst (0)) (n := 1) (by decide +kernel)) (by decide +kernel) <|
    z_istore_n (n := 3) (i := 3) (zd (i := .istore_n 3) (n := 1) (by decide +kernel)) rfl (by decide +kernel) <|
    (zj (hj 1) (by decide +kernel))
noncomputable def b_X9_lentBy_1 : zBl := fun jp K => oIld 3 <| oAld 0 <| oGetR 9 22 <| oAld 0 <| oGetI 9 18 <| oXald 10 <| oIc zge zlt (jp 3) (jp 2)
theorem s_X9_lentBy_1 (d : Nat) : zPb l G gh (d + 1) n_X9_lentBy p_X9_lentBy 4 b_X9_lentBy_1 := fun K jp hj =>
    z_iload_n (n := 3) (i := 3) (zd (i := .iload_n 3) (n := 1) (by decide +kernel)) rfl <|
    z_aload_n (n := 0) (i := 0) (zd (i := .aload_n 0) (n := 1) (by decide +kernel)) rfl <|
    z_getR (ci := 9) (j := 22) (idx := 43) (zd (i := .getfield 43) (n := 3) (by decide +kernel)) (by decide +kernel) (by decide +kernel) rfl g1150 <|
    z_aload_n (n := 0) (i := 0) (zd (i := .aload_n 0) (n := 1) (by decide +kernel)) rfl <|
    z_getI (ci := 9) (j := 18) (idx := 230) (zd (i := .getfield 230) (n := 3) (by decide +kernel)) (by decide +kernel) (by decide +kernel) rfl g1146 <|
    z_iald (zd (i := .iaload) (n := 1) (by decide +kernel)) <|
    z_icmp_ge (off := 26) (tgt := 40) (zd (i := .if_icmp .ge (26)) (n := 3) (by decide +kernel)) (by decide +kernel) (zj (hj 3) (by decide +kernel)) (zj (hj 2) (by decide +kernel))
noncomputable def b_X9_lentBy_2 : zBl := fun jp K => oIld 2 <| oAld 0 <| oGetR 9 49 <| oInt 2147483672 <| oInt 2147483654 <| oIld 1 <| oB2 zimul <| oB2 zadd <| oIld 3 <| oB2 zadd <| oXald 10 <| oB2 zadd <| oIst 2 <| oInc 3 2147483649 <| jp 1
theorem s_X9_lentBy_2 (d : Nat) : zPb l G gh (d + 1) n_X9_lentBy p_X9_lentBy 17 b_X9_lentBy_2 := fun K jp hj =>
    z_iload_n (n := 2) (i := 2) (zd (i := .iload_n 2) (n := 1) (by decide +kernel)) rfl <|
    z_aload_n (n := 0) (i := 0) (zd (i := .aload_n 0) (n := 1) (by decide +kernel)) rfl <|
    z_getR (ci := 9) (j := 49) (idx := 113) (zd (i := .getfield 113) (n := 3) (by decide +kernel)) (by decide +kernel) (by decide +kernel) rfl g1177 <|
    z_bipush (n := 24) (zd (i := .bipush (24)) (n := 2) (by decide +kernel)) (by decide +kernel) <|
    z_bipush (n := 6) (zd (i := .bipush (6)) (n := 2) (by decide +kernel)) (by decide +kernel) <|
    z_iload_n (n := 1) (i := 1) (zd (i := .iload_n 1) (n := 1) (by decide +kernel)) rfl <|
    z_imul (zd (i := .imul) (n := 1) (by decide +kernel)) <|
    z_iadd (zd (i := .iadd) (n := 1) (by decide +kernel)) <|
    z_iload_n (n := 3) (i := 3) (zd (i := .iload_n 3) (n := 1) (by decide +kernel)) rfl <|
    z_iadd (zd (i := .iadd) (n := 1) (by decide +kernel)) <|
    z_iald (zd (i := .iaload) (n := 1) (by decide +kernel)) <|
    z_iadd (zd (i := .iadd) (n := 1) (by decide +kernel)) <|
    z_istore_n (n := 2) (i := 2) (zd (i := .istore_n 2) (n := 1) (by decide +kernel)) rfl (by decide +kernel) <|
    z_iinc (i := 3) (n := 1) (zd (i := .iinc 3 (1)) (n := 3) (by decide +kernel)) (by decide +kernel) (by decide +kernel) <|
    z_goto (off := -33) (tgt := 4) (zd (i := .goto (-33)) (n := 3) (by decide +kernel)) (by decide +kernel) (zj (hj 1) (by decide +kernel))
noncomputable def b_X9_lentBy_3 : zBl := fun jp K => oIld 2 <| oIret K
theorem s_X9_lentBy_3 (d : Nat) : zPb l G gh (d + 1) n_X9_lentBy p_X9_lentBy 40 b_X9_lentBy_3 := fun K jp hj =>
    z_iload_n (n := 2) (i := 2) (zd (i := .iload_n 2) (n := 1) (by decide +kernel)) rfl <|
    z_iret (zd (i := .ireturn) (n := 1) (by decide +kernel)) rfl
noncomputable def t_X9_lentBy : List zBl := [b_X9_lentBy_0, b_X9_lentBy_1, b_X9_lentBy_2, b_X9_lentBy_3]
theorem tt_X9_lentBy (d : Nat) : zT (zPb l G gh (d + 1) n_X9_lentBy p_X9_lentBy) t_X9_lentBy p_X9_lentBy := ⟨s_X9_lentBy_0 d, s_X9_lentBy_1 d, s_X9_lentBy_2 d, s_X9_lentBy_3 d, trivial⟩
def q_X9_lentBy_0 : List (Nat × Nat) := [(292, zk102), (301, zk107), (324, zk104)]
noncomputable def al_X9_lentBy_0 : zAq := [(some (.inl 8589934591), [(292, zk102), (301, zk107), (324, zk104)])]
noncomputable def fm_X9_lentBy_0 : List zFm := [(0, [], (fun vs => [.inr (.ref 292), .inl 9223372043297226757]), (fun vs => zP q_X9_lentBy_0), (fun vs => Nat.sub (Nat.add 7 0) 0)),
  (1, [(3, 2147483648, 2147483654)], (fun vs => [.inr (.ref 292), .inl 9223372043297226757, .inl 8589934591, .inl (zn 0 vs 0)]), (fun vs => zP q_X9_lentBy_0), (fun vs => Nat.sub (Nat.add 2147483654 0) (Nat.add 0 (Nat.mul 1 (zn 0 vs 0)))))]
def bf_X9_lentBy_0 : List Nat := [0, 2]
theorem r_X9_lentBy_0_0 : zbox [] (fun vs => zFrun (zpost (zAlq al_X9_lentBy_0)) 1000 t_X9_lentBy fm_X9_lentBy_0 bf_X9_lentBy_0 (0, vs)) = true := by decide +kernel
theorem r_X9_lentBy_0_1 : zbox [(3, 2147483648, 2147483654)] (fun vs => zFrun (zpost (zAlq al_X9_lentBy_0)) 1000 t_X9_lentBy fm_X9_lentBy_0 bf_X9_lentBy_0 (1, vs)) = true := by decide +kernel
set_option maxRecDepth 100000 in
theorem x_X9_lentBy_0 (d : Nat) : zS l G gh (d + 1) (zpost (zAlq al_X9_lentBy_0)) n_X9_lentBy (zn 0 p_X9_lentBy 0) (zwc (0, [.inr (.ref 292), .inl 9223372043297226757], zP q_X9_lentBy_0) 0) := zentry (tt_X9_lentBy d) fm_X9_lentBy_0 bf_X9_lentBy_0 1000 (by decide +kernel) rfl ⟨Nat.zero_lt_succ _, trivial⟩ (fun f hf => match f, hf with
  | 0, _ => fun vs hv => (zbox_t r_X9_lentBy_0_0) vs hv
  | 1, _ => fun vs hv => (zbox_t r_X9_lentBy_0_1) vs hv
  | f + 2, h => absurd (show f + 2 < 2 from h) (Nat.not_lt.mpr (Nat.le_add_left 2 f)))
noncomputable def gs_X9_lentBy_0 : zMt := zgq false [] 4 [.inr (.ref 292), .inl 9223372043297226757] q_X9_lentBy_0 al_X9_lentBy_0
set_option maxRecDepth 100000 in
theorem cs_X9_lentBy_0 (d : Nat) : zC l G gh (d + 1) n_X9_lentBy gs_X9_lentBy_0 := zgq_ok0 (pcs := p_X9_lentBy) (by decide) rfl rfl (fun a ha => by simp only [al_X9_lentBy_0, List.mem_cons, List.not_mem_nil, or_false] at ha; rcases ha with rfl <;> decide +kernel) (fun gh => x_X9_lentBy_0 d) (by decide +kernel)
noncomputable def gs_X9_lentBy : zMt := gs_X9_lentBy_0
theorem cs_X9_lentBy (d : Nat) : zC l G gh (d + 1) n_X9_lentBy gs_X9_lentBy := (cs_X9_lentBy_0 d)
def n_X9_keepsRow : qMn := (yX9_keepsRow, cX9_keepsRow, 2, none, 0, 0)
theorem to_X9_keepsRow : qTo n_X9_keepsRow 0 := ⟨g1128, g110, ⟨by decide, by decide, by decide +kernel⟩, by decide⟩
def p_X9_keepsRow : List Nat := [0, 2, 8, 26]
noncomputable def b_X9_keepsRow_0 : zBl := fun jp K => oInt 2147483648 <| oIst 1 <| jp 1
theorem s_X9_keepsRow_0 (d : Nat) : zPb l G gh (d + 1) n_X9_keepsRow p_X9_keepsRow 0 b_X9_keepsRow_0 := fun K jp hj =>
    z_iconst (n := 0) (zd (i := .iconst (0)) (n := 1) (by decide +kernel)) (by decide +kernel) <|
    z_istore_n (n := 1) (i := 1) (zd (i := .istore_n 1) (n := 1) (by decide +kernel)) rfl (by decide +kernel) <|
    (zj (hj 1) (by decide +kernel))
noncomputable def b_X9_keepsRow_1 : zBl := fun jp K => oNLC 1 2147483745 zgeN zltN zn1_ge zn1_lt (jp 3) (jp 2)
theorem s_X9_keepsRow_1 (d : Nat) : zPb l G gh (d + 1) n_X9_keepsRow p_X9_keepsRow 2 b_X9_keepsRow_1 := fun K jp hj =>
    z_nLC_ge (i := 1) (c0 := 2147483745) (a1 := 1) (a2 := 2) (off := 21) (tgt := 26) (zLd_n (n := 1) (i := 1) (zd (i := .iload_n 1) (n := 1) (by decide +kernel)) rfl) (zCn_b (n := 97) (zd (i := .bipush (97)) (n := 2) (by decide +kernel)) (by decide +kernel)) (zd (i := .if_icmp .ge (21)) (n := 3) (by decide +kernel)) (by decide +kernel) (zj (hj 3) (by decide +kernel)) (zj (hj 2) (by decide +kernel))
noncomputable def b_X9_keepsRow_2 : zBl := fun jp K => oAld 0 <| oGetR 9 48 <| oIld 1 <| oAld 0 <| oGetR 9 49 <| oIld 1 <| oXald 10 <| oXast 10 zid <| oInc 1 2147483649 <| jp 1
theorem s_X9_keepsRow_2 (d : Nat) : zPb l G gh (d + 1) n_X9_keepsRow p_X9_keepsRow 8 b_X9_keepsRow_2 := fun K jp hj =>
    z_aload_n (n := 0) (i := 0) (zd (i := .aload_n 0) (n := 1) (by decide +kernel)) rfl <|
    z_getR (ci := 9) (j := 48) (idx := 110) (zd (i := .getfield 110) (n := 3) (by decide +kernel)) (by decide +kernel) (by decide +kernel) rfl g1176 <|
    z_iload_n (n := 1) (i := 1) (zd (i := .iload_n 1) (n := 1) (by decide +kernel)) rfl <|
    z_aload_n (n := 0) (i := 0) (zd (i := .aload_n 0) (n := 1) (by decide +kernel)) rfl <|
    z_getR (ci := 9) (j := 49) (idx := 113) (zd (i := .getfield 113) (n := 3) (by decide +kernel)) (by decide +kernel) (by decide +kernel) rfl g1177 <|
    z_iload_n (n := 1) (i := 1) (zd (i := .iload_n 1) (n := 1) (by decide +kernel)) rfl <|
    z_iald (zd (i := .iaload) (n := 1) (by decide +kernel)) <|
    z_iast (zd (i := .iastore) (n := 1) (by decide +kernel)) <|
    z_iinc (i := 1) (n := 1) (zd (i := .iinc 1 (1)) (n := 3) (by decide +kernel)) (by decide +kernel) (by decide +kernel) <|
    z_goto (off := -21) (tgt := 2) (zd (i := .goto (-21)) (n := 3) (by decide +kernel)) (by decide +kernel) (zj (hj 1) (by decide +kernel))
noncomputable def b_X9_keepsRow_3 : zBl := fun jp K => oVret K
theorem s_X9_keepsRow_3 (d : Nat) : zPb l G gh (d + 1) n_X9_keepsRow p_X9_keepsRow 26 b_X9_keepsRow_3 := fun K jp hj =>
    z_vret (zd (i := .return_) (n := 1) (by decide +kernel)) rfl
noncomputable def t_X9_keepsRow : List zBl := [b_X9_keepsRow_0, b_X9_keepsRow_1, b_X9_keepsRow_2, b_X9_keepsRow_3]
theorem tt_X9_keepsRow (d : Nat) : zT (zPb l G gh (d + 1) n_X9_keepsRow p_X9_keepsRow) t_X9_keepsRow p_X9_keepsRow := ⟨s_X9_keepsRow_0 d, s_X9_keepsRow_1 d, s_X9_keepsRow_2 d, s_X9_keepsRow_3 d, trivial⟩
def q_X9_keepsRow_0 : List (Nat × Nat) := [(292, zk102), (323, zk104), (324, zk104)]
noncomputable def al_X9_keepsRow_0 : zAq := [(none, [(292, zk102), (323, zk106), (324, zk104)])]
def mq_X9_keepsRow_0_1 : List (Nat × Nat) := [(292, zk102), (323, zk106), (324, zk104)]
noncomputable def fm_X9_keepsRow_0 : List zFm := [(0, [], (fun vs => [.inr (.ref 292)]), (fun vs => zP q_X9_keepsRow_0), (fun vs => Nat.sub (Nat.add 98 0) 0)),
  (1, [(1, 2147483648, 2147483745)], (fun vs => [.inr (.ref 292), .inl (zn 0 vs 0)]), (fun vs => zP mq_X9_keepsRow_0_1), (fun vs => Nat.sub (Nat.add 2147483745 0) (Nat.add 0 (Nat.mul 1 (zn 0 vs 0)))))]
def bf_X9_keepsRow_0 : List Nat := [0, 2]
theorem r_X9_keepsRow_0_0 : zbox [] (fun vs => zFrun (zpost (zAlq al_X9_keepsRow_0)) 1000 t_X9_keepsRow fm_X9_keepsRow_0 bf_X9_keepsRow_0 (0, vs)) = true := by decide +kernel
theorem r_X9_keepsRow_0_1 : zbox [(1, 2147483648, 2147483745)] (fun vs => zFrun (zpost (zAlq al_X9_keepsRow_0)) 1000 t_X9_keepsRow fm_X9_keepsRow_0 bf_X9_keepsRow_0 (1, vs)) = true := by decide +kernel
set_option maxRecDepth 100000 in
theorem x_X9_keepsRow_0 (d : Nat) : zS l G gh (d + 1) (zpost (zAlq al_X9_keepsRow_0)) n_X9_keepsRow (zn 0 p_X9_keepsRow 0) (zwc (0, [.inr (.ref 292)], zP q_X9_keepsRow_0) 0) := zentry (tt_X9_keepsRow d) fm_X9_keepsRow_0 bf_X9_keepsRow_0 1000 (by decide +kernel) rfl ⟨Nat.zero_lt_succ _, trivial⟩ (fun f hf => match f, hf with
  | 0, _ => fun vs hv => (zbox_t r_X9_keepsRow_0_0) vs hv
  | 1, _ => fun vs hv => (zbox_t r_X9_keepsRow_0_1) vs hv
  | f + 2, h => absurd (show f + 2 < 2 from h) (Nat.not_lt.mpr (Nat.le_add_left 2 f)))
noncomputable def gs_X9_keepsRow_0 : zMt := zgq false [] 2 [.inr (.ref 292)] q_X9_keepsRow_0 al_X9_keepsRow_0
set_option maxRecDepth 100000 in
theorem cs_X9_keepsRow_0 (d : Nat) : zC l G gh (d + 1) n_X9_keepsRow gs_X9_keepsRow_0 := zgq_ok0 (pcs := p_X9_keepsRow) (by decide) rfl rfl (fun a ha => by simp only [al_X9_keepsRow_0, List.mem_cons, List.not_mem_nil, or_false] at ha; rcases ha with rfl <;> decide +kernel) (fun gh => x_X9_keepsRow_0 d) (by decide +kernel)
noncomputable def gs_X9_keepsRow : zMt := gs_X9_keepsRow_0
theorem cs_X9_keepsRow (d : Nat) : zC l G gh (d + 1) n_X9_keepsRow gs_X9_keepsRow := (cs_X9_keepsRow_0 d)
def n_X9_mixed : qMn := (yX9_mixed, cX9_mixed, 3, (some Jvm.ClassFile.FieldType.int), 0, 0)
theorem to_X9_mixed : qTo n_X9_mixed 2 := ⟨g1560, g110, ⟨by decide, by decide, by decide +kernel⟩, by decide⟩
def p_X9_mixed : List Nat := [0]
noncomputable def b_X9_mixed_0 : zBl := fun jp K => oIld 0 <| oIld 1 <| oB2 zixor <| oInt 3250998893 <| oB2 zimul <| oInt 2147495993 <| oB2 zadd <| oIst 2 <| oIld 2 <| oIld 2 <| oInt 2147483663 <| oB2 ziushr <| oB2 zixor <| oIret K
theorem s_X9_mixed_0 (d : Nat) : zPb l G gh (d + 1) n_X9_mixed p_X9_mixed 0 b_X9_mixed_0 := fun K jp hj =>
    z_iload_n (n := 0) (i := 0) (zd (i := .iload_n 0) (n := 1) (by decide +kernel)) rfl <|
    z_iload_n (n := 1) (i := 1) (zd (i := .iload_n 1) (n := 1) (by decide +kernel)) rfl <|
    z_ixor (zd (i := .ixor) (n := 1) (by decide +kernel)) <|
    z_ldcw (n := 311) (zd (i := .ldc_w 311) (n := 3) (by decide +kernel)) g1561 (by decide +kernel) <|
    z_imul (zd (i := .imul) (n := 1) (by decide +kernel)) <|
    z_sipush (n := 12345) (zd (i := .sipush (12345)) (n := 3) (by decide +kernel)) (by decide +kernel) <|
    z_iadd (zd (i := .iadd) (n := 1) (by decide +kernel)) <|
    z_istore_n (n := 2) (i := 2) (zd (i := .istore_n 2) (n := 1) (by decide +kernel)) rfl (by decide +kernel) <|
    z_iload_n (n := 2) (i := 2) (zd (i := .iload_n 2) (n := 1) (by decide +kernel)) rfl <|
    z_iload_n (n := 2) (i := 2) (zd (i := .iload_n 2) (n := 1) (by decide +kernel)) rfl <|
    z_bipush (n := 15) (zd (i := .bipush (15)) (n := 2) (by decide +kernel)) (by decide +kernel) <|
    z_iushr (zd (i := .iushr) (n := 1) (by decide +kernel)) <|
    z_ixor (zd (i := .ixor) (n := 1) (by decide +kernel)) <|
    z_iret (zd (i := .ireturn) (n := 1) (by decide +kernel)) rfl
noncomputable def t_X9_mixed : List zBl := [b_X9_mixed_0]
theorem tt_X9_mixed (d : Nat) : zT (zPb l G gh (d + 1) n_X9_mixed p_X9_mixed) t_X9_mixed p_X9_mixed := ⟨s_X9_mixed_0 d, trivial⟩
noncomputable def f_X9_mixed : zMt := zmet 3 t_X9_mixed
theorem c_X9_mixed (d : Nat) : zC l G gh (d + 1) n_X9_mixed f_X9_mixed := zmet_ok (pcs := p_X9_mixed) (by decide) rfl rfl (tt_X9_mixed d)
def n_X9_undo : qMn := (yX9_undo, cX9_undo, 2, (some Jvm.ClassFile.FieldType.boolean), 0, 0)
theorem to_X9_undo : qTo n_X9_undo 0 := ⟨g1573, g110, ⟨by decide, by decide, by decide +kernel⟩, by decide⟩
def p_X9_undo : List Nat := [0, 7, 9, 21, 27, 53]
noncomputable def b_X9_undo_0 : zBl := fun jp K => oNFC 0 9 51 2147483648 zneN zeqN zn1_ne zn1_eq (jp 2) (jp 1)
theorem s_X9_undo_0 (d : Nat) : zPb l G gh (d + 1) n_X9_undo p_X9_undo 0 b_X9_undo_0 := fun K jp hj =>
    z_nF0_ne (r := 0) (ci := 9) (j := 51) (a1 := 4) (off := 5) (tgt := 9) (zFd_n (n := 0) (r := 0) (ci := 9) (j := 51) (idx := 248) (zd (i := .aload_n 0) (n := 1) (by decide +kernel)) rfl (zd (i := .getfield 248) (n := 3) (by decide +kernel)) (by decide +kernel) (by decide +kernel) rfl g1179) (by decide +kernel) rfl (zd (i := .ifCond .ne (5)) (n := 3) (by decide +kernel)) (by decide +kernel) (zj (hj 2) (by decide +kernel)) (zj (hj 1) (by decide +kernel))
noncomputable def b_X9_undo_1 : zBl := fun jp K => oInt 2147483648 <| oZret K
theorem s_X9_undo_1 (d : Nat) : zPb l G gh (d + 1) n_X9_undo p_X9_undo 7 b_X9_undo_1 := fun K jp hj =>
    z_iconst (n := 0) (zd (i := .iconst (0)) (n := 1) (by decide +kernel)) (by decide +kernel) <|
    z_zret (zd (i := .ireturn) (n := 1) (by decide +kernel)) rfl
noncomputable def b_X9_undo_2 : zBl := fun jp K => oAld 0 <| oDup <| oGetI 9 51 <| oInt 2147483649 <| oB2 zsub <| oPutI 9 51 <| oInt 2147483648 <| oIst 1 <| jp 3
theorem s_X9_undo_2 (d : Nat) : zPb l G gh (d + 1) n_X9_undo p_X9_undo 9 b_X9_undo_2 := fun K jp hj =>
    z_aload_n (n := 0) (i := 0) (zd (i := .aload_n 0) (n := 1) (by decide +kernel)) rfl <|
    z_dup (zd (i := .dup) (n := 1) (by decide +kernel)) <|
    z_getI (ci := 9) (j := 51) (idx := 248) (zd (i := .getfield 248) (n := 3) (by decide +kernel)) (by decide +kernel) (by decide +kernel) rfl g1179 <|
    z_iconst (n := 1) (zd (i := .iconst (1)) (n := 1) (by decide +kernel)) (by decide +kernel) <|
    z_isub (zd (i := .isub) (n := 1) (by decide +kernel)) <|
    z_putI (ci := 9) (j := 51) (idx := 248) (zd (i := .putfield 248) (n := 3) (by decide +kernel)) (by decide +kernel) (by decide +kernel) rfl g1179 (Or.inl rfl) <|
    z_iconst (n := 0) (zd (i := .iconst (0)) (n := 1) (by decide +kernel)) (by decide +kernel) <|
    z_istore_n (n := 1) (i := 1) (zd (i := .istore_n 1) (n := 1) (by decide +kernel)) rfl (by decide +kernel) <|
    (zj (hj 3) (by decide +kernel))
noncomputable def b_X9_undo_3 : zBl := fun jp K => oNLC 1 2147483745 zgeN zltN zn1_ge zn1_lt (jp 5) (jp 4)
theorem s_X9_undo_3 (d : Nat) : zPb l G gh (d + 1) n_X9_undo p_X9_undo 21 b_X9_undo_3 := fun K jp hj =>
    z_nLC_ge (i := 1) (c0 := 2147483745) (a1 := 1) (a2 := 2) (off := 29) (tgt := 53) (zLd_n (n := 1) (i := 1) (zd (i := .iload_n 1) (n := 1) (by decide +kernel)) rfl) (zCn_b (n := 97) (zd (i := .bipush (97)) (n := 2) (by decide +kernel)) (by decide +kernel)) (zd (i := .if_icmp .ge (29)) (n := 3) (by decide +kernel)) (by decide +kernel) (zj (hj 5) (by decide +kernel)) (zj (hj 4) (by decide +kernel))
noncomputable def b_X9_undo_4 : zBl := fun jp K => oAld 0 <| oGetR 9 48 <| oIld 1 <| oAld 0 <| oGetR 9 52 <| oInt 2147483745 <| oAld 0 <| oGetI 9 51 <| oB2 zimul <| oIld 1 <| oB2 zadd <| oXald 10 <| oXast 10 zid <| oInc 1 2147483649 <| jp 3
theorem s_X9_undo_4 (d : Nat) : zPb l G gh (d + 1) n_X9_undo p_X9_undo 27 b_X9_undo_4 := fun K jp hj =>
    z_aload_n (n := 0) (i := 0) (zd (i := .aload_n 0) (n := 1) (by decide +kernel)) rfl <|
    z_getR (ci := 9) (j := 48) (idx := 110) (zd (i := .getfield 110) (n := 3) (by decide +kernel)) (by decide +kernel) (by decide +kernel) rfl g1176 <|
    z_iload_n (n := 1) (i := 1) (zd (i := .iload_n 1) (n := 1) (by decide +kernel)) rfl <|
    z_aload_n (n := 0) (i := 0) (zd (i := .aload_n 0) (n := 1) (by decide +kernel)) rfl <|
    z_getR (ci := 9) (j := 52) (idx := 116) (zd (i := .getfield 116) (n := 3) (by decide +kernel)) (by decide +kernel) (by decide +kernel) rfl g1180 <|
    z_bipush (n := 97) (zd (i := .bipush (97)) (n := 2) (by decide +kernel)) (by decide +kernel) <|
    z_aload_n (n := 0) (i := 0) (zd (i := .aload_n 0) (n := 1) (by decide +kernel)) rfl <|
    z_getI (ci := 9) (j := 51) (idx := 248) (zd (i := .getfield 248) (n := 3) (by decide +kernel)) (by decide +kernel) (by decide +kernel) rfl g1179 <|
    z_imul (zd (i := .imul) (n := 1) (by decide +kernel)) <|
    z_iload_n (n := 1) (i := 1) (zd (i := .iload_n 1) (n := 1) (by decide +kernel)) rfl <|
    z_iadd (zd (i := .iadd) (n := 1) (by decide +kernel)) <|
    z_iald (zd (i := .iaload) (n := 1) (by decide +kernel)) <|
    z_iast (zd (i := .iastore) (n := 1) (by decide +kernel)) <|
    z_iinc (i := 1) (n := 1) (zd (i := .iinc 1 (1)) (n := 3) (by decide +kernel)) (by decide +kernel) (by decide +kernel) <|
    z_goto (off := -29) (tgt := 21) (zd (i := .goto (-29)) (n := 3) (by decide +kernel)) (by decide +kernel) (zj (hj 3) (by decide +kernel))
noncomputable def b_X9_undo_5 : zBl := fun jp K => oInt 2147483649 <| oZret K
theorem s_X9_undo_5 (d : Nat) : zPb l G gh (d + 1) n_X9_undo p_X9_undo 53 b_X9_undo_5 := fun K jp hj =>
    z_iconst (n := 1) (zd (i := .iconst (1)) (n := 1) (by decide +kernel)) (by decide +kernel) <|
    z_zret (zd (i := .ireturn) (n := 1) (by decide +kernel)) rfl
noncomputable def t_X9_undo : List zBl := [b_X9_undo_0, b_X9_undo_1, b_X9_undo_2, b_X9_undo_3, b_X9_undo_4, b_X9_undo_5]
theorem tt_X9_undo (d : Nat) : zT (zPb l G gh (d + 1) n_X9_undo p_X9_undo) t_X9_undo p_X9_undo := ⟨s_X9_undo_0 d, s_X9_undo_1 d, s_X9_undo_2 d, s_X9_undo_3 d, s_X9_undo_4 d, s_X9_undo_5 d, trivial⟩
def q_X9_undo_0 : List (Nat × Nat) := [(292, zk102), (323, zk104), (325, zk108)]
noncomputable def al_X9_undo_0 : zAq := [(some (.inl 9223372043297226753), [(292, zk109), (323, zk106), (325, zk108)])]
def mq_X9_undo_0_1 : List (Nat × Nat) := [(292, zk110), (323, zk106), (325, zk108)]
noncomputable def fm_X9_undo_0 : List zFm := [(0, [], (fun vs => [.inr (.ref 292)]), (fun vs => zP q_X9_undo_0), (fun vs => Nat.sub (Nat.add 98 0) 0)),
  (3, [(1, 2147483648, 2147483745)], (fun vs => [.inr (.ref 292), .inl (zn 0 vs 0)]), (fun vs => zP mq_X9_undo_0_1), (fun vs => Nat.sub (Nat.add 2147483745 0) (Nat.add 0 (Nat.mul 1 (zn 0 vs 0)))))]
def bf_X9_undo_0 : List Nat := [0, 0, 0, 2]
theorem r_X9_undo_0_0 : zbox [] (fun vs => zFrun (zpost (zAlq al_X9_undo_0)) 1000 t_X9_undo fm_X9_undo_0 bf_X9_undo_0 (0, vs)) = true := by decide +kernel
theorem r_X9_undo_0_1 : zbox [(1, 2147483648, 2147483745)] (fun vs => zFrun (zpost (zAlq al_X9_undo_0)) 1000 t_X9_undo fm_X9_undo_0 bf_X9_undo_0 (1, vs)) = true := by decide +kernel
set_option maxRecDepth 100000 in
theorem x_X9_undo_0 (d : Nat) : zS l G gh (d + 1) (zpost (zAlq al_X9_undo_0)) n_X9_undo (zn 0 p_X9_undo 0) (zwc (0, [.inr (.ref 292)], zP q_X9_undo_0) 0) := zentry (tt_X9_undo d) fm_X9_undo_0 bf_X9_undo_0 1000 (by decide +kernel) rfl ⟨Nat.zero_lt_succ _, trivial⟩ (fun f hf => match f, hf with
  | 0, _ => fun vs hv => (zbox_t r_X9_undo_0_0) vs hv
  | 1, _ => fun vs hv => (zbox_t r_X9_undo_0_1) vs hv
  | f + 2, h => absurd (show f + 2 < 2 from h) (Nat.not_lt.mpr (Nat.le_add_left 2 f)))
noncomputable def gs_X9_undo_0 : zMt := zgq false [] 2 [.inr (.ref 292)] q_X9_undo_0 al_X9_undo_0
set_option maxRecDepth 100000 in
theorem cs_X9_undo_0 (d : Nat) : zC l G gh (d + 1) n_X9_undo gs_X9_undo_0 := zgq_ok0 (pcs := p_X9_undo) (by decide) rfl rfl (fun a ha => by simp only [al_X9_undo_0, List.mem_cons, List.not_mem_nil, or_false] at ha; rcases ha with rfl <;> decide +kernel) (fun gh => x_X9_undo_0 d) (by decide +kernel)
noncomputable def gs_X9_undo : zMt := gs_X9_undo_0
theorem cs_X9_undo (d : Nat) : zC l G gh (d + 1) n_X9_undo gs_X9_undo := (cs_X9_undo_0 d)
def n_X9_forget : qMn := (yX9_forget, cX9_forget, 2, (some Jvm.ClassFile.FieldType.int), 0, 0)
theorem to_X9_forget : qTo n_X9_forget 0 := ⟨g1680, g110, ⟨by decide, by decide, by decide +kernel⟩, by decide⟩
def p_X9_forget : List Nat := [0]
noncomputable def b_X9_forget_0 : zBl := fun jp K => oAld 0 <| oGetI 9 58 <| oIst 1 <| oAld 0 <| oInt 2147483648 <| oPutI 9 58 <| oIld 1 <| oIret K
theorem s_X9_forget_0 (d : Nat) : zPb l G gh (d + 1) n_X9_forget p_X9_forget 0 b_X9_forget_0 := fun K jp hj =>
    z_aload_n (n := 0) (i := 0) (zd (i := .aload_n 0) (n := 1) (by decide +kernel)) rfl <|
    z_getI (ci := 9) (j := 58) (idx := 251) (zd (i := .getfield 251) (n := 3) (by decide +kernel)) (by decide +kernel) (by decide +kernel) rfl g1186 <|
    z_istore_n (n := 1) (i := 1) (zd (i := .istore_n 1) (n := 1) (by decide +kernel)) rfl (by decide +kernel) <|
    z_aload_n (n := 0) (i := 0) (zd (i := .aload_n 0) (n := 1) (by decide +kernel)) rfl <|
    z_iconst (n := 0) (zd (i := .iconst (0)) (n := 1) (by decide +kernel)) (by decide +kernel) <|
    z_putI (ci := 9) (j := 58) (idx := 251) (zd (i := .putfield 251) (n := 3) (by decide +kernel)) (by decide +kernel) (by decide +kernel) rfl g1186 (Or.inl rfl) <|
    z_iload_n (n := 1) (i := 1) (zd (i := .iload_n 1) (n := 1) (by decide +kernel)) rfl <|
    z_iret (zd (i := .ireturn) (n := 1) (by decide +kernel)) rfl
noncomputable def t_X9_forget : List zBl := [b_X9_forget_0]
theorem tt_X9_forget (d : Nat) : zT (zPb l G gh (d + 1) n_X9_forget p_X9_forget) t_X9_forget p_X9_forget := ⟨s_X9_forget_0 d, trivial⟩
def q_X9_forget_0 : List (Nat × Nat) := [(292, zk102)]
noncomputable def al_X9_forget_0 : zAq := [(some (.inl 9223372043297226772), [(292, zk109)])]
noncomputable def fm_X9_forget_0 : List zFm := [(0, [], (fun vs => [.inr (.ref 292)]), (fun vs => zP q_X9_forget_0), (fun vs => Nat.sub (Nat.add 0 0) 0))]
def bf_X9_forget_0 : List Nat := []
theorem r_X9_forget_0_0 : zbox [] (fun vs => zFrun (zpost (zAlq al_X9_forget_0)) 1000 t_X9_forget fm_X9_forget_0 bf_X9_forget_0 (0, vs)) = true := by decide +kernel
set_option maxRecDepth 100000 in
theorem x_X9_forget_0 (d : Nat) : zS l G gh (d + 1) (zpost (zAlq al_X9_forget_0)) n_X9_forget (zn 0 p_X9_forget 0) (zwc (0, [.inr (.ref 292)], zP q_X9_forget_0) 0) := zentry (tt_X9_forget d) fm_X9_forget_0 bf_X9_forget_0 1000 (by decide +kernel) rfl ⟨Nat.zero_lt_succ _, trivial⟩ (fun f hf => match f, hf with
  | 0, _ => fun vs hv => (zbox_t r_X9_forget_0_0) vs hv
  | f + 1, h => absurd (show f + 1 < 1 from h) (Nat.not_lt.mpr (Nat.le_add_left 1 f)))
noncomputable def gs_X9_forget_0 : zMt := zgq false [] 2 [.inr (.ref 292)] q_X9_forget_0 al_X9_forget_0
set_option maxRecDepth 100000 in
theorem cs_X9_forget_0 (d : Nat) : zC l G gh (d + 1) n_X9_forget gs_X9_forget_0 := zgq_ok0 (pcs := p_X9_forget) (by decide) rfl rfl (fun a ha => by simp only [al_X9_forget_0, List.mem_cons, List.not_mem_nil, or_false] at ha; rcases ha with rfl <;> decide +kernel) (fun gh => x_X9_forget_0 d) (by decide +kernel)
noncomputable def gs_X9_forget : zMt := gs_X9_forget_0
theorem cs_X9_forget (d : Nat) : zC l G gh (d + 1) n_X9_forget gs_X9_forget := (cs_X9_forget_0 d)
def n_X9_sumNow : qMn := (yX9_sumNow, cX9_sumNow, 5, (some Jvm.ClassFile.FieldType.int), 0, 0)
theorem to_X9_sumNow : qTo n_X9_sumNow 2 := ⟨g1712, g110, ⟨by decide, by decide, by decide +kernel⟩, by decide⟩
def p_X9_sumNow : List Nat := [0, 5, 13, 29]
noncomputable def b_X9_sumNow_0 : zBl := fun jp K => oInt 2147483648 <| oIst 3 <| oIld 1 <| oIst 4 <| jp 1
theorem s_X9_sumNow_0 (d : Nat) : zPb l G gh (d + 1) n_X9_sumNow p_X9_sumNow 0 b_X9_sumNow_0 := fun K jp hj =>
    z_iconst (n := 0) (zd (i := .iconst (0)) (n := 1) (by decide +kernel)) (by decide +kernel) <|
    z_istore_n (n := 3) (i := 3) (zd (i := .istore_n 3) (n := 1) (by decide +kernel)) rfl (by decide +kernel) <|
    z_iload_n (n := 1) (i := 1) (zd (i := .iload_n 1) (n := 1) (by decide +kernel)) rfl <|
    z_istore (i := 4) (zd (i := .istore 4) (n := 2) (by decide +kernel)) (by decide +kernel) <|
    (zj (hj 1) (by decide +kernel))
noncomputable def b_X9_sumNow_1 : zBl := fun jp K => oIld 4 <| oIld 1 <| oIld 2 <| oB2 zadd <| oIc zge zlt (jp 3) (jp 2)
theorem s_X9_sumNow_1 (d : Nat) : zPb l G gh (d + 1) n_X9_sumNow p_X9_sumNow 5 b_X9_sumNow_1 := fun K jp hj =>
    z_iload (i := 4) (zd (i := .iload 4) (n := 2) (by decide +kernel)) <|
    z_iload_n (n := 1) (i := 1) (zd (i := .iload_n 1) (n := 1) (by decide +kernel)) rfl <|
    z_iload_n (n := 2) (i := 2) (zd (i := .iload_n 2) (n := 1) (by decide +kernel)) rfl <|
    z_iadd (zd (i := .iadd) (n := 1) (by decide +kernel)) <|
    z_icmp_ge (off := 19) (tgt := 29) (zd (i := .if_icmp .ge (19)) (n := 3) (by decide +kernel)) (by decide +kernel) (zj (hj 3) (by decide +kernel)) (zj (hj 2) (by decide +kernel))
noncomputable def b_X9_sumNow_2 : zBl := fun jp K => oIld 3 <| oAld 0 <| oGetR 9 48 <| oIld 4 <| oXald 10 <| oB2 zadd <| oIst 3 <| oInc 4 2147483649 <| jp 1
theorem s_X9_sumNow_2 (d : Nat) : zPb l G gh (d + 1) n_X9_sumNow p_X9_sumNow 13 b_X9_sumNow_2 := fun K jp hj =>
    z_iload_n (n := 3) (i := 3) (zd (i := .iload_n 3) (n := 1) (by decide +kernel)) rfl <|
    z_aload_n (n := 0) (i := 0) (zd (i := .aload_n 0) (n := 1) (by decide +kernel)) rfl <|
    z_getR (ci := 9) (j := 48) (idx := 110) (zd (i := .getfield 110) (n := 3) (by decide +kernel)) (by decide +kernel) (by decide +kernel) rfl g1176 <|
    z_iload (i := 4) (zd (i := .iload 4) (n := 2) (by decide +kernel)) <|
    z_iald (zd (i := .iaload) (n := 1) (by decide +kernel)) <|
    z_iadd (zd (i := .iadd) (n := 1) (by decide +kernel)) <|
    z_istore_n (n := 3) (i := 3) (zd (i := .istore_n 3) (n := 1) (by decide +kernel)) rfl (by decide +kernel) <|
    z_iinc (i := 4) (n := 1) (zd (i := .iinc 4 (1)) (n := 3) (by decide +kernel)) (by decide +kernel) (by decide +kernel) <|
    z_goto (off := -21) (tgt := 5) (zd (i := .goto (-21)) (n := 3) (by decide +kernel)) (by decide +kernel) (zj (hj 1) (by decide +kernel))
noncomputable def b_X9_sumNow_3 : zBl := fun jp K => oIld 3 <| oIret K
theorem s_X9_sumNow_3 (d : Nat) : zPb l G gh (d + 1) n_X9_sumNow p_X9_sumNow 29 b_X9_sumNow_3 := fun K jp hj =>
    z_iload_n (n := 3) (i := 3) (zd (i := .iload_n 3) (n := 1) (by decide +kernel)) rfl <|
    z_iret (zd (i := .ireturn) (n := 1) (by decide +kernel)) rfl
noncomputable def t_X9_sumNow : List zBl := [b_X9_sumNow_0, b_X9_sumNow_1, b_X9_sumNow_2, b_X9_sumNow_3]
theorem tt_X9_sumNow (d : Nat) : zT (zPb l G gh (d + 1) n_X9_sumNow p_X9_sumNow) t_X9_sumNow p_X9_sumNow := ⟨s_X9_sumNow_0 d, s_X9_sumNow_1 d, s_X9_sumNow_2 d, s_X9_sumNow_3 d, trivial⟩
def q_X9_sumNow_0 : List (Nat × Nat) := [(292, zk102), (323, zk104)]
noncomputable def al_X9_sumNow_0 : zAq := [(some (.inl 8589934591), [(292, zk102), (323, zk104)])]
noncomputable def fm_X9_sumNow_0 : List zFm := [(0, [], (fun vs => [.inr (.ref 292), .inl 2147483666, .inl 2147483654]), (fun vs => zP q_X9_sumNow_0), (fun vs => Nat.sub (Nat.add 7 0) 0)),
  (1, [(4, 2147483666, 2147483672)], (fun vs => [.inr (.ref 292), .inl 2147483666, .inl 2147483654, .inl 8589934591, .inl (zn 0 vs 0)]), (fun vs => zP q_X9_sumNow_0), (fun vs => Nat.sub (Nat.add 2147483672 0) (Nat.add 0 (Nat.mul 1 (zn 0 vs 0)))))]
def bf_X9_sumNow_0 : List Nat := [0, 2]
theorem r_X9_sumNow_0_0 : zbox [] (fun vs => zFrun (zpost (zAlq al_X9_sumNow_0)) 1000 t_X9_sumNow fm_X9_sumNow_0 bf_X9_sumNow_0 (0, vs)) = true := by decide +kernel
theorem r_X9_sumNow_0_1 : zbox [(4, 2147483666, 2147483672)] (fun vs => zFrun (zpost (zAlq al_X9_sumNow_0)) 1000 t_X9_sumNow fm_X9_sumNow_0 bf_X9_sumNow_0 (1, vs)) = true := by decide +kernel
set_option maxRecDepth 100000 in
theorem x_X9_sumNow_0 (d : Nat) : zS l G gh (d + 1) (zpost (zAlq al_X9_sumNow_0)) n_X9_sumNow (zn 0 p_X9_sumNow 0) (zwc (0, [.inr (.ref 292), .inl 2147483666, .inl 2147483654], zP q_X9_sumNow_0) 0) := zentry (tt_X9_sumNow d) fm_X9_sumNow_0 bf_X9_sumNow_0 1000 (by decide +kernel) rfl ⟨Nat.zero_lt_succ _, trivial⟩ (fun f hf => match f, hf with
  | 0, _ => fun vs hv => (zbox_t r_X9_sumNow_0_0) vs hv
  | 1, _ => fun vs hv => (zbox_t r_X9_sumNow_0_1) vs hv
  | f + 2, h => absurd (show f + 2 < 2 from h) (Nat.not_lt.mpr (Nat.le_add_left 2 f)))
noncomputable def gs_X9_sumNow_0 : zMt := zgq false [] 5 [.inr (.ref 292), .inl 2147483666, .inl 2147483654] q_X9_sumNow_0 al_X9_sumNow_0
set_option maxRecDepth 100000 in
theorem cs_X9_sumNow_0 (d : Nat) : zC l G gh (d + 1) n_X9_sumNow gs_X9_sumNow_0 := zgq_ok0 (pcs := p_X9_sumNow) (by decide) rfl rfl (fun a ha => by simp only [al_X9_sumNow_0, List.mem_cons, List.not_mem_nil, or_false] at ha; rcases ha with rfl <;> decide +kernel) (fun gh => x_X9_sumNow_0 d) (by decide +kernel)
def q_X9_sumNow_1 : List (Nat × Nat) := [(292, zk102), (323, zk104)]
noncomputable def al_X9_sumNow_1 : zAq := [(some (.inl 8589934591), [(292, zk102), (323, zk104)])]
noncomputable def fm_X9_sumNow_1 : List zFm := [(0, [], (fun vs => [.inr (.ref 292), .inl 2147483660, .inl 2147483654]), (fun vs => zP q_X9_sumNow_1), (fun vs => Nat.sub (Nat.add 7 0) 0)),
  (1, [(4, 2147483660, 2147483666)], (fun vs => [.inr (.ref 292), .inl 2147483660, .inl 2147483654, .inl 8589934591, .inl (zn 0 vs 0)]), (fun vs => zP q_X9_sumNow_1), (fun vs => Nat.sub (Nat.add 2147483666 0) (Nat.add 0 (Nat.mul 1 (zn 0 vs 0)))))]
def bf_X9_sumNow_1 : List Nat := [0, 2]
theorem r_X9_sumNow_1_0 : zbox [] (fun vs => zFrun (zpost (zAlq al_X9_sumNow_1)) 1000 t_X9_sumNow fm_X9_sumNow_1 bf_X9_sumNow_1 (0, vs)) = true := by decide +kernel
theorem r_X9_sumNow_1_1 : zbox [(4, 2147483660, 2147483666)] (fun vs => zFrun (zpost (zAlq al_X9_sumNow_1)) 1000 t_X9_sumNow fm_X9_sumNow_1 bf_X9_sumNow_1 (1, vs)) = true := by decide +kernel
set_option maxRecDepth 100000 in
theorem x_X9_sumNow_1 (d : Nat) : zS l G gh (d + 1) (zpost (zAlq al_X9_sumNow_1)) n_X9_sumNow (zn 0 p_X9_sumNow 0) (zwc (0, [.inr (.ref 292), .inl 2147483660, .inl 2147483654], zP q_X9_sumNow_1) 0) := zentry (tt_X9_sumNow d) fm_X9_sumNow_1 bf_X9_sumNow_1 1000 (by decide +kernel) rfl ⟨Nat.zero_lt_succ _, trivial⟩ (fun f hf => match f, hf with
  | 0, _ => fun vs hv => (zbox_t r_X9_sumNow_1_0) vs hv
  | 1, _ => fun vs hv => (zbox_t r_X9_sumNow_1_1) vs hv
  | f + 2, h => absurd (show f + 2 < 2 from h) (Nat.not_lt.mpr (Nat.le_add_left 2 f)))
noncomputable def gs_X9_sumNow_1 : zMt := zgq false [] 5 [.inr (.ref 292), .inl 2147483660, .inl 2147483654] q_X9_sumNow_1 al_X9_sumNow_1
set_option maxRecDepth 100000 in
theorem cs_X9_sumNow_1 (d : Nat) : zC l G gh (d + 1) n_X9_sumNow gs_X9_sumNow_1 := zgq_ok0 (pcs := p_X9_sumNow) (by decide) rfl rfl (fun a ha => by simp only [al_X9_sumNow_1, List.mem_cons, List.not_mem_nil, or_false] at ha; rcases ha with rfl <;> decide +kernel) (fun gh => x_X9_sumNow_1 d) (by decide +kernel)
def q_X9_sumNow_2 : List (Nat × Nat) := [(292, zk102), (323, zk104)]
noncomputable def al_X9_sumNow_2 : zAq := [(some (.inl 8589934591), [(292, zk102), (323, zk104)])]
noncomputable def fm_X9_sumNow_2 : List zFm := [(0, [], (fun vs => [.inr (.ref 292), .inl 2147483654, .inl 2147483654]), (fun vs => zP q_X9_sumNow_2), (fun vs => Nat.sub (Nat.add 7 0) 0)),
  (1, [(4, 2147483654, 2147483660)], (fun vs => [.inr (.ref 292), .inl 2147483654, .inl 2147483654, .inl 8589934591, .inl (zn 0 vs 0)]), (fun vs => zP q_X9_sumNow_2), (fun vs => Nat.sub (Nat.add 2147483660 0) (Nat.add 0 (Nat.mul 1 (zn 0 vs 0)))))]
def bf_X9_sumNow_2 : List Nat := [0, 2]
theorem r_X9_sumNow_2_0 : zbox [] (fun vs => zFrun (zpost (zAlq al_X9_sumNow_2)) 1000 t_X9_sumNow fm_X9_sumNow_2 bf_X9_sumNow_2 (0, vs)) = true := by decide +kernel
theorem r_X9_sumNow_2_1 : zbox [(4, 2147483654, 2147483660)] (fun vs => zFrun (zpost (zAlq al_X9_sumNow_2)) 1000 t_X9_sumNow fm_X9_sumNow_2 bf_X9_sumNow_2 (1, vs)) = true := by decide +kernel
set_option maxRecDepth 100000 in
theorem x_X9_sumNow_2 (d : Nat) : zS l G gh (d + 1) (zpost (zAlq al_X9_sumNow_2)) n_X9_sumNow (zn 0 p_X9_sumNow 0) (zwc (0, [.inr (.ref 292), .inl 2147483654, .inl 2147483654], zP q_X9_sumNow_2) 0) := zentry (tt_X9_sumNow d) fm_X9_sumNow_2 bf_X9_sumNow_2 1000 (by decide +kernel) rfl ⟨Nat.zero_lt_succ _, trivial⟩ (fun f hf => match f, hf with
  | 0, _ => fun vs hv => (zbox_t r_X9_sumNow_2_0) vs hv
  | 1, _ => fun vs hv => (zbox_t r_X9_sumNow_2_1) vs hv
  | f + 2, h => absurd (show f + 2 < 2 from h) (Nat.not_lt.mpr (Nat.le_add_left 2 f)))
noncomputable def gs_X9_sumNow_2 : zMt := zgq false [] 5 [.inr (.ref 292), .inl 2147483654, .inl 2147483654] q_X9_sumNow_2 al_X9_sumNow_2
set_option maxRecDepth 100000 in
theorem cs_X9_sumNow_2 (d : Nat) : zC l G gh (d + 1) n_X9_sumNow gs_X9_sumNow_2 := zgq_ok0 (pcs := p_X9_sumNow) (by decide) rfl rfl (fun a ha => by simp only [al_X9_sumNow_2, List.mem_cons, List.not_mem_nil, or_false] at ha; rcases ha with rfl <;> decide +kernel) (fun gh => x_X9_sumNow_2 d) (by decide +kernel)
def q_X9_sumNow_3 : List (Nat × Nat) := [(292, zk102), (323, zk104)]
noncomputable def al_X9_sumNow_3 : zAq := [(some (.inl 8589934591), [(292, zk102), (323, zk104)])]
noncomputable def fm_X9_sumNow_3 : List zFm := [(0, [], (fun vs => [.inr (.ref 292), .inl 2147483672, .inl 2147483684]), (fun vs => zP q_X9_sumNow_3), (fun vs => Nat.sub (Nat.add 37 0) 0)),
  (1, [(4, 2147483672, 2147483708)], (fun vs => [.inr (.ref 292), .inl 2147483672, .inl 2147483684, .inl 8589934591, .inl (zn 0 vs 0)]), (fun vs => zP q_X9_sumNow_3), (fun vs => Nat.sub (Nat.add 2147483708 0) (Nat.add 0 (Nat.mul 1 (zn 0 vs 0)))))]
def bf_X9_sumNow_3 : List Nat := [0, 2]
theorem r_X9_sumNow_3_0 : zbox [] (fun vs => zFrun (zpost (zAlq al_X9_sumNow_3)) 1000 t_X9_sumNow fm_X9_sumNow_3 bf_X9_sumNow_3 (0, vs)) = true := by decide +kernel
theorem r_X9_sumNow_3_1 : zbox [(4, 2147483672, 2147483708)] (fun vs => zFrun (zpost (zAlq al_X9_sumNow_3)) 1000 t_X9_sumNow fm_X9_sumNow_3 bf_X9_sumNow_3 (1, vs)) = true := by decide +kernel
set_option maxRecDepth 100000 in
theorem x_X9_sumNow_3 (d : Nat) : zS l G gh (d + 1) (zpost (zAlq al_X9_sumNow_3)) n_X9_sumNow (zn 0 p_X9_sumNow 0) (zwc (0, [.inr (.ref 292), .inl 2147483672, .inl 2147483684], zP q_X9_sumNow_3) 0) := zentry (tt_X9_sumNow d) fm_X9_sumNow_3 bf_X9_sumNow_3 1000 (by decide +kernel) rfl ⟨Nat.zero_lt_succ _, trivial⟩ (fun f hf => match f, hf with
  | 0, _ => fun vs hv => (zbox_t r_X9_sumNow_3_0) vs hv
  | 1, _ => fun vs hv => (zbox_t r_X9_sumNow_3_1) vs hv
  | f + 2, h => absurd (show f + 2 < 2 from h) (Nat.not_lt.mpr (Nat.le_add_left 2 f)))
noncomputable def gs_X9_sumNow_3 : zMt := zgq false [] 5 [.inr (.ref 292), .inl 2147483672, .inl 2147483684] q_X9_sumNow_3 al_X9_sumNow_3
set_option maxRecDepth 100000 in
theorem cs_X9_sumNow_3 (d : Nat) : zC l G gh (d + 1) n_X9_sumNow gs_X9_sumNow_3 := zgq_ok0 (pcs := p_X9_sumNow) (by decide) rfl rfl (fun a ha => by simp only [al_X9_sumNow_3, List.mem_cons, List.not_mem_nil, or_false] at ha; rcases ha with rfl <;> decide +kernel) (fun gh => x_X9_sumNow_3 d) (by decide +kernel)
noncomputable def gs_X9_sumNow : zMt := (zor gs_X9_sumNow_0 (zor gs_X9_sumNow_1 (zor gs_X9_sumNow_2 gs_X9_sumNow_3)))
theorem cs_X9_sumNow (d : Nat) : zC l G gh (d + 1) n_X9_sumNow gs_X9_sumNow := (zor_ok (cs_X9_sumNow_0 d) (zor_ok (cs_X9_sumNow_1 d) (zor_ok (cs_X9_sumNow_2 d) (cs_X9_sumNow_3 d))))
def n_X9_begins : qMn := (yX9_begins, cX9_begins, 2, none, 0, 0)
theorem to_X9_begins : qTo n_X9_begins 0 := ⟨g1124, g110, ⟨by decide, by decide, by decide +kernel⟩, by decide⟩
def p_X9_begins : List Nat := [0, 2, 8, 21, 23, 36, 85]
noncomputable def b_X9_begins_0 : zBl := fun jp K => oInt 2147483648 <| oIst 1 <| jp 1
theorem s_X9_begins_0 (d : Nat) : zPb l G gh (d + 1) n_X9_begins p_X9_begins 0 b_X9_begins_0 := fun K jp hj =>
    z_iconst (n := 0) (zd (i := .iconst (0)) (n := 1) (by decide +kernel)) (by decide +kernel) <|
    z_istore_n (n := 1) (i := 1) (zd (i := .istore_n 1) (n := 1) (by decide +kernel)) rfl (by decide +kernel) <|
    (zj (hj 1) (by decide +kernel))
noncomputable def b_X9_begins_1 : zBl := fun jp K => oNLC 1 2147483745 zgeN zltN zn1_ge zn1_lt (jp 3) (jp 2)
theorem s_X9_begins_1 (d : Nat) : zPb l G gh (d + 1) n_X9_begins p_X9_begins 2 b_X9_begins_1 := fun K jp hj =>
    z_nLC_ge (i := 1) (c0 := 2147483745) (a1 := 1) (a2 := 2) (off := 16) (tgt := 21) (zLd_n (n := 1) (i := 1) (zd (i := .iload_n 1) (n := 1) (by decide +kernel)) rfl) (zCn_b (n := 97) (zd (i := .bipush (97)) (n := 2) (by decide +kernel)) (by decide +kernel)) (zd (i := .if_icmp .ge (16)) (n := 3) (by decide +kernel)) (by decide +kernel) (zj (hj 3) (by decide +kernel)) (zj (hj 2) (by decide +kernel))
noncomputable def b_X9_begins_2 : zBl := fun jp K => oAld 0 <| oGetR 9 49 <| oIld 1 <| oInt 2147483648 <| oXast 10 zid <| oInc 1 2147483649 <| jp 1
theorem s_X9_begins_2 (d : Nat) : zPb l G gh (d + 1) n_X9_begins p_X9_begins 8 b_X9_begins_2 := fun K jp hj =>
    z_aload_n (n := 0) (i := 0) (zd (i := .aload_n 0) (n := 1) (by decide +kernel)) rfl <|
    z_getR (ci := 9) (j := 49) (idx := 113) (zd (i := .getfield 113) (n := 3) (by decide +kernel)) (by decide +kernel) (by decide +kernel) rfl g1177 <|
    z_iload_n (n := 1) (i := 1) (zd (i := .iload_n 1) (n := 1) (by decide +kernel)) rfl <|
    z_iconst (n := 0) (zd (i := .iconst (0)) (n := 1) (by decide +kernel)) (by decide +kernel) <|
    z_iast (zd (i := .iastore) (n := 1) (by decide +kernel)) <|
    z_iinc (i := 1) (n := 1) (zd (i := .iinc 1 (1)) (n := 3) (by decide +kernel)) (by decide +kernel) (by decide +kernel) <|
    z_goto (off := -16) (tgt := 2) (zd (i := .goto (-16)) (n := 3) (by decide +kernel)) (by decide +kernel) (zj (hj 1) (by decide +kernel))
noncomputable def b_X9_begins_3 : zBl := fun jp K => oInt 2147483648 <| oIst 1 <| jp 4
theorem s_X9_begins_3 (d : Nat) : zPb l G gh (d + 1) n_X9_begins p_X9_begins 21 b_X9_begins_3 := fun K jp hj =>
    z_iconst (n := 0) (zd (i := .iconst (0)) (n := 1) (by decide +kernel)) (by decide +kernel) <|
    z_istore_n (n := 1) (i := 1) (zd (i := .istore_n 1) (n := 1) (by decide +kernel)) rfl (by decide +kernel) <|
    (zj (hj 4) (by decide +kernel))
noncomputable def b_X9_begins_4 : zBl := fun jp K => oIld 1 <| oAld 0 <| oGetR 9 25 <| oAld 0 <| oGetI 9 18 <| oXald 10 <| oIc zge zlt (jp 6) (jp 5)
theorem s_X9_begins_4 (d : Nat) : zPb l G gh (d + 1) n_X9_begins p_X9_begins 23 b_X9_begins_4 := fun K jp hj =>
    z_iload_n (n := 1) (i := 1) (zd (i := .iload_n 1) (n := 1) (by decide +kernel)) rfl <|
    z_aload_n (n := 0) (i := 0) (zd (i := .aload_n 0) (n := 1) (by decide +kernel)) rfl <|
    z_getR (ci := 9) (j := 25) (idx := 52) (zd (i := .getfield 52) (n := 3) (by decide +kernel)) (by decide +kernel) (by decide +kernel) rfl g1153 <|
    z_aload_n (n := 0) (i := 0) (zd (i := .aload_n 0) (n := 1) (by decide +kernel)) rfl <|
    z_getI (ci := 9) (j := 18) (idx := 230) (zd (i := .getfield 230) (n := 3) (by decide +kernel)) (by decide +kernel) (by decide +kernel) rfl g1146 <|
    z_iald (zd (i := .iaload) (n := 1) (by decide +kernel)) <|
    z_icmp_ge (off := 52) (tgt := 85) (zd (i := .if_icmp .ge (52)) (n := 3) (by decide +kernel)) (by decide +kernel) (zj (hj 6) (by decide +kernel)) (zj (hj 5) (by decide +kernel))
noncomputable def b_X9_begins_5 : zBl := fun jp K => oAld 0 <| oGetR 9 49 <| oIld 1 <| oAld 0 <| oGetR 9 26 <| oInt 2147483654 <| oAld 0 <| oGetI 9 18 <| oB2 zimul <| oIld 1 <| oB2 zadd <| oXald 10 <| oXast 10 zid <| oAld 0 <| oGetR 9 49 <| oInt 2147483654 <| oIld 1 <| oB2 zadd <| oAld 0 <| oGetR 9 27 <| oInt 2147483654 <| oAld 0 <| oGetI 9 18 <| oB2 zimul <| oIld 1 <| oB2 zadd <| oXald 10 <| oXast 10 zid <| oInc 1 2147483649 <| jp 4
theorem s_X9_begins_5 (d : Nat) : zPb l G gh (d + 1) n_X9_begins p_X9_begins 36 b_X9_begins_5 := fun K jp hj =>
    z_aload_n (n := 0) (i := 0) (zd (i := .aload_n 0) (n := 1) (by decide +kernel)) rfl <|
    z_getR (ci := 9) (j := 49) (idx := 113) (zd (i := .getfield 113) (n := 3) (by decide +kernel)) (by decide +kernel) (by decide +kernel) rfl g1177 <|
    z_iload_n (n := 1) (i := 1) (zd (i := .iload_n 1) (n := 1) (by decide +kernel)) rfl <|
    z_aload_n (n := 0) (i := 0) (zd (i := .aload_n 0) (n := 1) (by decide +kernel)) rfl <|
    z_getR (ci := 9) (j := 26) (idx := 55) (zd (i := .getfield 55) (n := 3) (by decide +kernel)) (by decide +kernel) (by decide +kernel) rfl g1154 <|
    z_bipush (n := 6) (zd (i := .bipush (6)) (n := 2) (by decide +kernel)) (by decide +kernel) <|
    z_aload_n (n := 0) (i := 0) (zd (i := .aload_n 0) (n := 1) (by decide +kernel)) rfl <|
    z_getI (ci := 9) (j := 18) (idx := 230) (zd (i := .getfield 230) (n := 3) (by decide +kernel)) (by decide +kernel) (by decide +kernel) rfl g1146 <|
    z_imul (zd (i := .imul) (n := 1) (by decide +kernel)) <|
    z_iload_n (n := 1) (i := 1) (zd (i := .iload_n 1) (n := 1) (by decide +kernel)) rfl <|
    z_iadd (zd (i := .iadd) (n := 1) (by decide +kernel)) <|
    z_iald (zd (i := .iaload) (n := 1) (by decide +kernel)) <|
    z_iast (zd (i := .iastore) (n := 1) (by decide +kernel)) <|
    z_aload_n (n := 0) (i := 0) (zd (i := .aload_n 0) (n := 1) (by decide +kernel)) rfl <|
    z_getR (ci := 9) (j := 49) (idx := 113) (zd (i := .getfield 113) (n := 3) (by decide +kernel)) (by decide +kernel) (by decide +kernel) rfl g1177 <|
    z_bipush (n := 6) (zd (i := .bipush (6)) (n := 2) (by decide +kernel)) (by decide +kernel) <|
    z_iload_n (n := 1) (i := 1) (zd (i := .iload_n 1) (n := 1) (by decide +kernel)) rfl <|
    z_iadd (zd (i := .iadd) (n := 1) (by decide +kernel)) <|
    z_aload_n (n := 0) (i := 0) (zd (i := .aload_n 0) (n := 1) (by decide +kernel)) rfl <|
    z_getR (ci := 9) (j := 27) (idx := 58) (zd (i := .getfield 58) (n := 3) (by decide +kernel)) (by decide +kernel) (by decide +kernel) rfl g1155 <|
    z_bipush (n := 6) (zd (i := .bipush (6)) (n := 2) (by decide +kernel)) (by decide +kernel) <|
    z_aload_n (n := 0) (i := 0) (zd (i := .aload_n 0) (n := 1) (by decide +kernel)) rfl <|
    z_getI (ci := 9) (j := 18) (idx := 230) (zd (i := .getfield 230) (n := 3) (by decide +kernel)) (by decide +kernel) (by decide +kernel) rfl g1146 <|
    z_imul (zd (i := .imul) (n := 1) (by decide +kernel)) <|
    z_iload_n (n := 1) (i := 1) (zd (i := .iload_n 1) (n := 1) (by decide +kernel)) rfl <|
    z_iadd (zd (i := .iadd) (n := 1) (by decide +kernel)) <|
    z_iald (zd (i := .iaload) (n := 1) (by decide +kernel)) <|
    z_iast (zd (i := .iastore) (n := 1) (by decide +kernel)) <|
    z_iinc (i := 1) (n := 1) (zd (i := .iinc 1 (1)) (n := 3) (by decide +kernel)) (by decide +kernel) (by decide +kernel) <|
    z_goto (off := -59) (tgt := 23) (zd (i := .goto (-59)) (n := 3) (by decide +kernel)) (by decide +kernel) (zj (hj 4) (by decide +kernel))
noncomputable def b_X9_begins_6 : zBl := fun jp K => oAld 0 <| oGetR 9 49 <| oInt 2147483744 <| oAld 0 <| oGetR 9 30 <| oAld 0 <| oGetI 9 18 <| oXald 10 <| oXast 10 zid <| oAld 0 <| oAld 0 <| oGetR 9 31 <| oAld 0 <| oGetI 9 18 <| oXald 10 <| oPutI 9 50 <| oVret K
theorem s_X9_begins_6 (d : Nat) : zPb l G gh (d + 1) n_X9_begins p_X9_begins 85 b_X9_begins_6 := fun K jp hj =>
    z_aload_n (n := 0) (i := 0) (zd (i := .aload_n 0) (n := 1) (by decide +kernel)) rfl <|
    z_getR (ci := 9) (j := 49) (idx := 113) (zd (i := .getfield 113) (n := 3) (by decide +kernel)) (by decide +kernel) (by decide +kernel) rfl g1177 <|
    z_bipush (n := 96) (zd (i := .bipush (96)) (n := 2) (by decide +kernel)) (by decide +kernel) <|
    z_aload_n (n := 0) (i := 0) (zd (i := .aload_n 0) (n := 1) (by decide +kernel)) rfl <|
    z_getR (ci := 9) (j := 30) (idx := 67) (zd (i := .getfield 67) (n := 3) (by decide +kernel)) (by decide +kernel) (by decide +kernel) rfl g1158 <|
    z_aload_n (n := 0) (i := 0) (zd (i := .aload_n 0) (n := 1) (by decide +kernel)) rfl <|
    z_getI (ci := 9) (j := 18) (idx := 230) (zd (i := .getfield 230) (n := 3) (by decide +kernel)) (by decide +kernel) (by decide +kernel) rfl g1146 <|
    z_iald (zd (i := .iaload) (n := 1) (by decide +kernel)) <|
    z_iast (zd (i := .iastore) (n := 1) (by decide +kernel)) <|
    z_aload_n (n := 0) (i := 0) (zd (i := .aload_n 0) (n := 1) (by decide +kernel)) rfl <|
    z_aload_n (n := 0) (i := 0) (zd (i := .aload_n 0) (n := 1) (by decide +kernel)) rfl <|
    z_getR (ci := 9) (j := 31) (idx := 70) (zd (i := .getfield 70) (n := 3) (by decide +kernel)) (by decide +kernel) (by decide +kernel) rfl g1159 <|
    z_aload_n (n := 0) (i := 0) (zd (i := .aload_n 0) (n := 1) (by decide +kernel)) rfl <|
    z_getI (ci := 9) (j := 18) (idx := 230) (zd (i := .getfield 230) (n := 3) (by decide +kernel)) (by decide +kernel) (by decide +kernel) rfl g1146 <|
    z_iald (zd (i := .iaload) (n := 1) (by decide +kernel)) <|
    z_putI (ci := 9) (j := 50) (idx := 308) (zd (i := .putfield 308) (n := 3) (by decide +kernel)) (by decide +kernel) (by decide +kernel) rfl g1178 (Or.inl rfl) <|
    z_vret (zd (i := .return_) (n := 1) (by decide +kernel)) rfl
noncomputable def t_X9_begins : List zBl := [b_X9_begins_0, b_X9_begins_1, b_X9_begins_2, b_X9_begins_3, b_X9_begins_4, b_X9_begins_5, b_X9_begins_6]
theorem tt_X9_begins (d : Nat) : zT (zPb l G gh (d + 1) n_X9_begins p_X9_begins) t_X9_begins p_X9_begins := ⟨s_X9_begins_0 d, s_X9_begins_1 d, s_X9_begins_2 d, s_X9_begins_3 d, s_X9_begins_4 d, s_X9_begins_5 d, s_X9_begins_6 d, trivial⟩
def q_X9_begins_0 : List (Nat × Nat) := [(292, zk102), (304, zk107), (305, zk111), (306, zk111), (309, zk103), (310, zk103), (324, zk104)]
noncomputable def al_X9_begins_0 : zAq := [(none, [(292, zk105), (304, zk107), (305, zk111), (306, zk111), (309, zk103), (310, zk103), (324, zk106)])]
def mq_X9_begins_0_1 : List (Nat × Nat) := [(292, zk102), (304, zk107), (305, zk111), (306, zk111), (309, zk103), (310, zk103), (324, zk106)]
def mq_X9_begins_0_2 : List (Nat × Nat) := [(292, zk102), (304, zk107), (305, zk111), (306, zk111), (309, zk103), (310, zk103), (324, zk106)]
noncomputable def fm_X9_begins_0 : List zFm := [(0, [], (fun vs => [.inr (.ref 292)]), (fun vs => zP q_X9_begins_0), (fun vs => Nat.sub (Nat.add 196 0) 0)),
  (1, [(1, 2147483648, 2147483745)], (fun vs => [.inr (.ref 292), .inl (zn 0 vs 0)]), (fun vs => zP mq_X9_begins_0_1), (fun vs => Nat.sub (Nat.add 2147483843 0) (Nat.add 0 (Nat.mul 1 (zn 0 vs 0))))),
  (4, [(1, 2147483648, 2147483654)], (fun vs => [.inr (.ref 292), .inl (zn 0 vs 0)]), (fun vs => zP mq_X9_begins_0_2), (fun vs => Nat.sub (Nat.add 2147483745 0) (Nat.add 0 (Nat.mul 1 (zn 0 vs 0)))))]
def bf_X9_begins_0 : List Nat := [0, 2, 0, 0, 3]
theorem r_X9_begins_0_0 : zbox [] (fun vs => zFrun (zpost (zAlq al_X9_begins_0)) 1000 t_X9_begins fm_X9_begins_0 bf_X9_begins_0 (0, vs)) = true := by decide +kernel
theorem r_X9_begins_0_1 : zbox [(1, 2147483648, 2147483745)] (fun vs => zFrun (zpost (zAlq al_X9_begins_0)) 1000 t_X9_begins fm_X9_begins_0 bf_X9_begins_0 (1, vs)) = true := by decide +kernel
theorem r_X9_begins_0_2 : zbox [(1, 2147483648, 2147483654)] (fun vs => zFrun (zpost (zAlq al_X9_begins_0)) 1000 t_X9_begins fm_X9_begins_0 bf_X9_begins_0 (2, vs)) = true := by decide +kernel
set_option maxRecDepth 100000 in
theorem x_X9_begins_0 (d : Nat) : zS l G gh (d + 1) (zpost (zAlq al_X9_begins_0)) n_X9_begins (zn 0 p_X9_begins 0) (zwc (0, [.inr (.ref 292)], zP q_X9_begins_0) 0) := zentry (tt_X9_begins d) fm_X9_begins_0 bf_X9_begins_0 1000 (by decide +kernel) rfl ⟨Nat.zero_lt_succ _, trivial⟩ (fun f hf => match f, hf with
  | 0, _ => fun vs hv => (zbox_t r_X9_begins_0_0) vs hv
  | 1, _ => fun vs hv => (zbox_t r_X9_begins_0_1) vs hv
  | 2, _ => fun vs hv => (zbox_t r_X9_begins_0_2) vs hv
  | f + 3, h => absurd (show f + 3 < 3 from h) (Nat.not_lt.mpr (Nat.le_add_left 3 f)))
noncomputable def gs_X9_begins_0 : zMt := zgq false [] 2 [.inr (.ref 292)] q_X9_begins_0 al_X9_begins_0
set_option maxRecDepth 100000 in
theorem cs_X9_begins_0 (d : Nat) : zC l G gh (d + 1) n_X9_begins gs_X9_begins_0 := zgq_ok0 (pcs := p_X9_begins) (by decide) rfl rfl (fun a ha => by simp only [al_X9_begins_0, List.mem_cons, List.not_mem_nil, or_false] at ha; rcases ha with rfl <;> decide +kernel) (fun gh => x_X9_begins_0 d) (by decide +kernel)
noncomputable def gs_X9_begins : zMt := gs_X9_begins_0
theorem cs_X9_begins (d : Nat) : zC l G gh (d + 1) n_X9_begins gs_X9_begins := (cs_X9_begins_0 d)
def n_X9_isThing : qMn := (yX9_isThing, cX9_isThing, 2, (some Jvm.ClassFile.FieldType.boolean), 0, 0)
theorem to_X9_isThing : qTo n_X9_isThing 1 := ⟨g1441, g110, ⟨by decide, by decide, by decide +kernel⟩, by decide⟩
def p_X9_isThing : List Nat := [0]
noncomputable def b_X9_isThing_0 : zBl := fun jp K => oIld 1 <| oInt 2147483648 <| oAld 0 <| oGetR 9 22 <| oAld 0 <| oGetI 9 18 <| oXald 10 <| oInt 2147483649 <| oB2 zsub <| oCs 3 f_X9_in <| oZret K
theorem s_X9_isThing_0 (d : Nat) : zPb l G gh (d + 2) n_X9_isThing p_X9_isThing 0 b_X9_isThing_0 := fun K jp hj =>
    z_iload_n (n := 1) (i := 1) (zd (i := .iload_n 1) (n := 1) (by decide +kernel)) rfl <|
    z_iconst (n := 0) (zd (i := .iconst (0)) (n := 1) (by decide +kernel)) (by decide +kernel) <|
    z_aload_n (n := 0) (i := 0) (zd (i := .aload_n 0) (n := 1) (by decide +kernel)) rfl <|
    z_getR (ci := 9) (j := 22) (idx := 43) (zd (i := .getfield 43) (n := 3) (by decide +kernel)) (by decide +kernel) (by decide +kernel) rfl g1150 <|
    z_aload_n (n := 0) (i := 0) (zd (i := .aload_n 0) (n := 1) (by decide +kernel)) rfl <|
    z_getI (ci := 9) (j := 18) (idx := 230) (zd (i := .getfield 230) (n := 3) (by decide +kernel)) (by decide +kernel) (by decide +kernel) rfl g1146 <|
    z_iald (zd (i := .iaload) (n := 1) (by decide +kernel)) <|
    z_iconst (n := 1) (zd (i := .iconst (1)) (n := 1) (by decide +kernel)) (by decide +kernel) <|
    z_isub (zd (i := .isub) (n := 1) (by decide +kernel)) <|
    z_callS (idx := 304) (N := n_X9_in) (zd (i := .invokestatic 304) (n := 3) (by decide +kernel)) to_X9_in g1442 g1443 rfl rfl (c_X9_in (l := l) (G := G) (gh := gh) (d)) <|
    z_zret (zd (i := .ireturn) (n := 1) (by decide +kernel)) rfl
noncomputable def t_X9_isThing : List zBl := [b_X9_isThing_0]
theorem tt_X9_isThing (d : Nat) : zT (zPb l G gh (d + 2) n_X9_isThing p_X9_isThing) t_X9_isThing p_X9_isThing := ⟨s_X9_isThing_0 d, trivial⟩
noncomputable def f_X9_isThing : zMt := zmet 2 t_X9_isThing
theorem c_X9_isThing (d : Nat) : zC l G gh (d + 2) n_X9_isThing f_X9_isThing := zmet_ok (pcs := p_X9_isThing) (by decide) rfl rfl (tt_X9_isThing d)
def n_X9_isSeat : qMn := (yX9_isSeat, cX9_isSeat, 2, (some Jvm.ClassFile.FieldType.boolean), 0, 0)
theorem to_X9_isSeat : qTo n_X9_isSeat 1 := ⟨g1490, g110, ⟨by decide, by decide, by decide +kernel⟩, by decide⟩
def p_X9_isSeat : List Nat := [0]
noncomputable def b_X9_isSeat_0 : zBl := fun jp K => oIld 1 <| oInt 2147483648 <| oAld 0 <| oGetR 9 25 <| oAld 0 <| oGetI 9 18 <| oXald 10 <| oInt 2147483649 <| oB2 zsub <| oCs 3 f_X9_in <| oZret K
theorem s_X9_isSeat_0 (d : Nat) : zPb l G gh (d + 2) n_X9_isSeat p_X9_isSeat 0 b_X9_isSeat_0 := fun K jp hj =>
    z_iload_n (n := 1) (i := 1) (zd (i := .iload_n 1) (n := 1) (by decide +kernel)) rfl <|
    z_iconst (n := 0) (zd (i := .iconst (0)) (n := 1) (by decide +kernel)) (by decide +kernel) <|
    z_aload_n (n := 0) (i := 0) (zd (i := .aload_n 0) (n := 1) (by decide +kernel)) rfl <|
    z_getR (ci := 9) (j := 25) (idx := 52) (zd (i := .getfield 52) (n := 3) (by decide +kernel)) (by decide +kernel) (by decide +kernel) rfl g1153 <|
    z_aload_n (n := 0) (i := 0) (zd (i := .aload_n 0) (n := 1) (by decide +kernel)) rfl <|
    z_getI (ci := 9) (j := 18) (idx := 230) (zd (i := .getfield 230) (n := 3) (by decide +kernel)) (by decide +kernel) (by decide +kernel) rfl g1146 <|
    z_iald (zd (i := .iaload) (n := 1) (by decide +kernel)) <|
    z_iconst (n := 1) (zd (i := .iconst (1)) (n := 1) (by decide +kernel)) (by decide +kernel) <|
    z_isub (zd (i := .isub) (n := 1) (by decide +kernel)) <|
    z_callS (idx := 304) (N := n_X9_in) (zd (i := .invokestatic 304) (n := 3) (by decide +kernel)) to_X9_in g1442 g1443 rfl rfl (c_X9_in (l := l) (G := G) (gh := gh) (d)) <|
    z_zret (zd (i := .ireturn) (n := 1) (by decide +kernel)) rfl
noncomputable def t_X9_isSeat : List zBl := [b_X9_isSeat_0]
theorem tt_X9_isSeat (d : Nat) : zT (zPb l G gh (d + 2) n_X9_isSeat p_X9_isSeat) t_X9_isSeat p_X9_isSeat := ⟨s_X9_isSeat_0 d, trivial⟩
noncomputable def f_X9_isSeat : zMt := zmet 2 t_X9_isSeat
theorem c_X9_isSeat (d : Nat) : zC l G gh (d + 2) n_X9_isSeat f_X9_isSeat := zmet_ok (pcs := p_X9_isSeat) (by decide) rfl rfl (tt_X9_isSeat d)
def n_X9_isX : qMn := (yX9_isX, cX9_isX, 1, (some Jvm.ClassFile.FieldType.boolean), 0, 0)
theorem to_X9_isX : qTo n_X9_isX 1 := ⟨g1509, g110, ⟨by decide, by decide, by decide +kernel⟩, by decide⟩
def p_X9_isX : List Nat := [0]
noncomputable def b_X9_isX_0 : zBl := fun jp K => oIld 0 <| oInt 2147483648 <| oInt 2147483667 <| oCs 3 f_X9_in <| oZret K
theorem s_X9_isX_0 (d : Nat) : zPb l G gh (d + 2) n_X9_isX p_X9_isX 0 b_X9_isX_0 := fun K jp hj =>
    z_iload_n (n := 0) (i := 0) (zd (i := .iload_n 0) (n := 1) (by decide +kernel)) rfl <|
    z_iconst (n := 0) (zd (i := .iconst (0)) (n := 1) (by decide +kernel)) (by decide +kernel) <|
    z_bipush (n := 19) (zd (i := .bipush (19)) (n := 2) (by decide +kernel)) (by decide +kernel) <|
    z_callS (idx := 304) (N := n_X9_in) (zd (i := .invokestatic 304) (n := 3) (by decide +kernel)) to_X9_in g1442 g1443 rfl rfl (c_X9_in (l := l) (G := G) (gh := gh) (d)) <|
    z_zret (zd (i := .ireturn) (n := 1) (by decide +kernel)) rfl
noncomputable def t_X9_isX : List zBl := [b_X9_isX_0]
theorem tt_X9_isX (d : Nat) : zT (zPb l G gh (d + 2) n_X9_isX p_X9_isX) t_X9_isX p_X9_isX := ⟨s_X9_isX_0 d, trivial⟩
noncomputable def f_X9_isX : zMt := zmet 1 t_X9_isX
theorem c_X9_isX (d : Nat) : zC l G gh (d + 2) n_X9_isX f_X9_isX := zmet_ok (pcs := p_X9_isX) (by decide) rfl rfl (tt_X9_isX d)
def n_X9_records : qMn := (yX9_records, cX9_records, 2, none, 0, 0)
theorem to_X9_records : qTo n_X9_records 0 := ⟨g1529, g110, ⟨by decide, by decide, by decide +kernel⟩, by decide⟩
def p_X9_records : List Nat := [0, 9, 11, 18, 39, 49, 51, 57, 83]
noncomputable def b_X9_records_0 : zBl := fun jp K => oNFC 0 9 51 2147483678 zneN zeqN zn1_ne zn1_eq (jp 5) (jp 1)
theorem s_X9_records_0 (d : Nat) : zPb l G gh (d + 2) n_X9_records p_X9_records 0 b_X9_records_0 := fun K jp hj =>
    z_nFC_ne (r := 0) (ci := 9) (j := 51) (c0 := 2147483678) (a1 := 4) (a2 := 2) (off := 43) (tgt := 49) (zFd_n (n := 0) (r := 0) (ci := 9) (j := 51) (idx := 248) (zd (i := .aload_n 0) (n := 1) (by decide +kernel)) rfl (zd (i := .getfield 248) (n := 3) (by decide +kernel)) (by decide +kernel) (by decide +kernel) rfl g1179) (by decide +kernel) rfl (zCn_b (n := 30) (zd (i := .bipush (30)) (n := 2) (by decide +kernel)) (by decide +kernel)) (zd (i := .if_icmp .ne (43)) (n := 3) (by decide +kernel)) (by decide +kernel) (zj (hj 5) (by decide +kernel)) (zj (hj 1) (by decide +kernel))
noncomputable def b_X9_records_1 : zBl := fun jp K => oInt 2147483648 <| oIst 1 <| jp 2
theorem s_X9_records_1 (d : Nat) : zPb l G gh (d + 2) n_X9_records p_X9_records 9 b_X9_records_1 := fun K jp hj =>
    z_iconst (n := 0) (zd (i := .iconst (0)) (n := 1) (by decide +kernel)) (by decide +kernel) <|
    z_istore_n (n := 1) (i := 1) (zd (i := .istore_n 1) (n := 1) (by decide +kernel)) rfl (by decide +kernel) <|
    (zj (hj 2) (by decide +kernel))
noncomputable def b_X9_records_2 : zBl := fun jp K => oNLC 1 2147486461 zgeN zltN zn1_ge zn1_lt (jp 4) (jp 3)
theorem s_X9_records_2 (d : Nat) : zPb l G gh (d + 2) n_X9_records p_X9_records 11 b_X9_records_2 := fun K jp hj =>
    z_nLC_ge (i := 1) (c0 := 2147486461) (a1 := 1) (a2 := 3) (off := 24) (tgt := 39) (zLd_n (n := 1) (i := 1) (zd (i := .iload_n 1) (n := 1) (by decide +kernel)) rfl) (zCn_s (n := 2813) (zd (i := .sipush (2813)) (n := 3) (by decide +kernel)) (by decide +kernel)) (zd (i := .if_icmp .ge (24)) (n := 3) (by decide +kernel)) (by decide +kernel) (zj (hj 4) (by decide +kernel)) (zj (hj 3) (by decide +kernel))
noncomputable def b_X9_records_3 : zBl := fun jp K => oAld 0 <| oGetR 9 52 <| oIld 1 <| oAld 0 <| oGetR 9 52 <| oIld 1 <| oInt 2147483745 <| oB2 zadd <| oXald 10 <| oXast 10 zid <| oInc 1 2147483649 <| jp 2
theorem s_X9_records_3 (d : Nat) : zPb l G gh (d + 2) n_X9_records p_X9_records 18 b_X9_records_3 := fun K jp hj =>
    z_aload_n (n := 0) (i := 0) (zd (i := .aload_n 0) (n := 1) (by decide +kernel)) rfl <|
    z_getR (ci := 9) (j := 52) (idx := 116) (zd (i := .getfield 116) (n := 3) (by decide +kernel)) (by decide +kernel) (by decide +kernel) rfl g1180 <|
    z_iload_n (n := 1) (i := 1) (zd (i := .iload_n 1) (n := 1) (by decide +kernel)) rfl <|
    z_aload_n (n := 0) (i := 0) (zd (i := .aload_n 0) (n := 1) (by decide +kernel)) rfl <|
    z_getR (ci := 9) (j := 52) (idx := 116) (zd (i := .getfield 116) (n := 3) (by decide +kernel)) (by decide +kernel) (by decide +kernel) rfl g1180 <|
    z_iload_n (n := 1) (i := 1) (zd (i := .iload_n 1) (n := 1) (by decide +kernel)) rfl <|
    z_bipush (n := 97) (zd (i := .bipush (97)) (n := 2) (by decide +kernel)) (by decide +kernel) <|
    z_iadd (zd (i := .iadd) (n := 1) (by decide +kernel)) <|
    z_iald (zd (i := .iaload) (n := 1) (by decide +kernel)) <|
    z_iast (zd (i := .iastore) (n := 1) (by decide +kernel)) <|
    z_iinc (i := 1) (n := 1) (zd (i := .iinc 1 (1)) (n := 3) (by decide +kernel)) (by decide +kernel) (by decide +kernel) <|
    z_goto (off := -25) (tgt := 11) (zd (i := .goto (-25)) (n := 3) (by decide +kernel)) (by decide +kernel) (zj (hj 2) (by decide +kernel))
noncomputable def b_X9_records_4 : zBl := fun jp K => oAld 0 <| oDup <| oGetI 9 51 <| oInt 2147483649 <| oB2 zsub <| oPutI 9 51 <| jp 5
theorem s_X9_records_4 (d : Nat) : zPb l G gh (d + 2) n_X9_records p_X9_records 39 b_X9_records_4 := fun K jp hj =>
    z_aload_n (n := 0) (i := 0) (zd (i := .aload_n 0) (n := 1) (by decide +kernel)) rfl <|
    z_dup (zd (i := .dup) (n := 1) (by decide +kernel)) <|
    z_getI (ci := 9) (j := 51) (idx := 248) (zd (i := .getfield 248) (n := 3) (by decide +kernel)) (by decide +kernel) (by decide +kernel) rfl g1179 <|
    z_iconst (n := 1) (zd (i := .iconst (1)) (n := 1) (by decide +kernel)) (by decide +kernel) <|
    z_isub (zd (i := .isub) (n := 1) (by decide +kernel)) <|
    z_putI (ci := 9) (j := 51) (idx := 248) (zd (i := .putfield 248) (n := 3) (by decide +kernel)) (by decide +kernel) (by decide +kernel) rfl g1179 (Or.inl rfl) <|
    (zj (hj 5) (by decide +kernel))
noncomputable def b_X9_records_5 : zBl := fun jp K => oInt 2147483648 <| oIst 1 <| jp 6
theorem s_X9_records_5 (d : Nat) : zPb l G gh (d + 2) n_X9_records p_X9_records 49 b_X9_records_5 := fun K jp hj =>
    z_iconst (n := 0) (zd (i := .iconst (0)) (n := 1) (by decide +kernel)) (by decide +kernel) <|
    z_istore_n (n := 1) (i := 1) (zd (i := .istore_n 1) (n := 1) (by decide +kernel)) rfl (by decide +kernel) <|
    (zj (hj 6) (by decide +kernel))
noncomputable def b_X9_records_6 : zBl := fun jp K => oNLC 1 2147483745 zgeN zltN zn1_ge zn1_lt (jp 8) (jp 7)
theorem s_X9_records_6 (d : Nat) : zPb l G gh (d + 2) n_X9_records p_X9_records 51 b_X9_records_6 := fun K jp hj =>
    z_nLC_ge (i := 1) (c0 := 2147483745) (a1 := 1) (a2 := 2) (off := 29) (tgt := 83) (zLd_n (n := 1) (i := 1) (zd (i := .iload_n 1) (n := 1) (by decide +kernel)) rfl) (zCn_b (n := 97) (zd (i := .bipush (97)) (n := 2) (by decide +kernel)) (by decide +kernel)) (zd (i := .if_icmp .ge (29)) (n := 3) (by decide +kernel)) (by decide +kernel) (zj (hj 8) (by decide +kernel)) (zj (hj 7) (by decide +kernel))
noncomputable def b_X9_records_7 : zBl := fun jp K => oAld 0 <| oGetR 9 52 <| oInt 2147483745 <| oAld 0 <| oGetI 9 51 <| oB2 zimul <| oIld 1 <| oB2 zadd <| oAld 0 <| oGetR 9 48 <| oIld 1 <| oXald 10 <| oXast 10 zid <| oInc 1 2147483649 <| jp 6
theorem s_X9_records_7 (d : Nat) : zPb l G gh (d + 2) n_X9_records p_X9_records 57 b_X9_records_7 := fun K jp hj =>
    z_aload_n (n := 0) (i := 0) (zd (i := .aload_n 0) (n := 1) (by decide +kernel)) rfl <|
    z_getR (ci := 9) (j := 52) (idx := 116) (zd (i := .getfield 116) (n := 3) (by decide +kernel)) (by decide +kernel) (by decide +kernel) rfl g1180 <|
    z_bipush (n := 97) (zd (i := .bipush (97)) (n := 2) (by decide +kernel)) (by decide +kernel) <|
    z_aload_n (n := 0) (i := 0) (zd (i := .aload_n 0) (n := 1) (by decide +kernel)) rfl <|
    z_getI (ci := 9) (j := 51) (idx := 248) (zd (i := .getfield 248) (n := 3) (by decide +kernel)) (by decide +kernel) (by decide +kernel) rfl g1179 <|
    z_imul (zd (i := .imul) (n := 1) (by decide +kernel)) <|
    z_iload_n (n := 1) (i := 1) (zd (i := .iload_n 1) (n := 1) (by decide +kernel)) rfl <|
    z_iadd (zd (i := .iadd) (n := 1) (by decide +kernel)) <|
    z_aload_n (n := 0) (i := 0) (zd (i := .aload_n 0) (n := 1) (by decide +kernel)) rfl <|
    z_getR (ci := 9) (j := 48) (idx := 110) (zd (i := .getfield 110) (n := 3) (by decide +kernel)) (by decide +kernel) (by decide +kernel) rfl g1176 <|
    z_iload_n (n := 1) (i := 1) (zd (i := .iload_n 1) (n := 1) (by decide +kernel)) rfl <|
    z_iald (zd (i := .iaload) (n := 1) (by decide +kernel)) <|
    z_iast (zd (i := .iastore) (n := 1) (by decide +kernel)) <|
    z_iinc (i := 1) (n := 1) (zd (i := .iinc 1 (1)) (n := 3) (by decide +kernel)) (by decide +kernel) (by decide +kernel) <|
    z_goto (off := -29) (tgt := 51) (zd (i := .goto (-29)) (n := 3) (by decide +kernel)) (by decide +kernel) (zj (hj 6) (by decide +kernel))
noncomputable def b_X9_records_8 : zBl := fun jp K => oAld 0 <| oDup <| oGetI 9 51 <| oInt 2147483649 <| oB2 zadd <| oPutI 9 51 <| oAld 0 <| oCv 9 0 gs_X9_keepsRow <| oVret K
theorem s_X9_records_8 (d : Nat) : zPb l G gh (d + 2) n_X9_records p_X9_records 83 b_X9_records_8 := fun K jp hj =>
    z_aload_n (n := 0) (i := 0) (zd (i := .aload_n 0) (n := 1) (by decide +kernel)) rfl <|
    z_dup (zd (i := .dup) (n := 1) (by decide +kernel)) <|
    z_getI (ci := 9) (j := 51) (idx := 248) (zd (i := .getfield 248) (n := 3) (by decide +kernel)) (by decide +kernel) (by decide +kernel) rfl g1179 <|
    z_iconst (n := 1) (zd (i := .iconst (1)) (n := 1) (by decide +kernel)) (by decide +kernel) <|
    z_iadd (zd (i := .iadd) (n := 1) (by decide +kernel)) <|
    z_putI (ci := 9) (j := 51) (idx := 248) (zd (i := .putfield 248) (n := 3) (by decide +kernel)) (by decide +kernel) (by decide +kernel) rfl g1179 (Or.inl rfl) <|
    z_aload_n (n := 0) (i := 0) (zd (i := .aload_n 0) (n := 1) (by decide +kernel)) rfl <|
    z_callV (idx := 164) (ci := 9) (N := n_X9_keepsRow) (zd (i := .invokevirtual 164) (n := 3) (by decide +kernel)) to_X9_keepsRow g1125 g1127 g43 (by decide +kernel) rfl rfl rfl (cs_X9_keepsRow (l := l) (G := G) (gh := gh) (d)) <|
    z_vret (zd (i := .return_) (n := 1) (by decide +kernel)) rfl
noncomputable def t_X9_records : List zBl := [b_X9_records_0, b_X9_records_1, b_X9_records_2, b_X9_records_3, b_X9_records_4, b_X9_records_5, b_X9_records_6, b_X9_records_7, b_X9_records_8]
theorem tt_X9_records (d : Nat) : zT (zPb l G gh (d + 2) n_X9_records p_X9_records) t_X9_records p_X9_records := ⟨s_X9_records_0 d, s_X9_records_1 d, s_X9_records_2 d, s_X9_records_3 d, s_X9_records_4 d, s_X9_records_5 d, s_X9_records_6 d, s_X9_records_7 d, s_X9_records_8 d, trivial⟩
def q_X9_records_0 : List (Nat × Nat) := [(292, zk102), (323, zk104), (324, zk104), (325, zk108)]
noncomputable def al_X9_records_0 : zAq := [(none, [(292, zk109), (323, zk106), (324, zk104), (325, zk112)])]
def mq_X9_records_0_1 : List (Nat × Nat) := [(292, zk113), (323, zk104), (324, zk104), (325, zk112)]
def mq_X9_records_0_2 : List (Nat × Nat) := [(292, zk110), (323, zk104), (324, zk104), (325, zk112)]
noncomputable def fm_X9_records_0 : List zFm := [(0, [], (fun vs => [.inr (.ref 292)]), (fun vs => zP q_X9_records_0), (fun vs => Nat.sub (Nat.add 5628 0) 0)),
  (2, [(1, 2147483648, 2147486461)], (fun vs => [.inr (.ref 292), .inl (zn 0 vs 0)]), (fun vs => zP mq_X9_records_0_1), (fun vs => Nat.sub (Nat.add 2147489275 0) (Nat.add 0 (Nat.mul 1 (zn 0 vs 0))))),
  (6, [(1, 2147483648, 2147483745)], (fun vs => [.inr (.ref 292), .inl (zn 0 vs 0)]), (fun vs => zP mq_X9_records_0_2), (fun vs => Nat.sub (Nat.add 2147486461 0) (Nat.add 0 (Nat.mul 1 (zn 0 vs 0)))))]
def bf_X9_records_0 : List Nat := [0, 0, 2, 0, 0, 0, 3]
theorem r_X9_records_0_0 : zbox [] (fun vs => zFrun (zpost (zAlq al_X9_records_0)) 1000 t_X9_records fm_X9_records_0 bf_X9_records_0 (0, vs)) = true := by decide +kernel
theorem r_X9_records_0_1 : zbox [(1, 2147483648, 2147486461)] (fun vs => zFrun (zpost (zAlq al_X9_records_0)) 1000 t_X9_records fm_X9_records_0 bf_X9_records_0 (1, vs)) = true := by decide +kernel
theorem r_X9_records_0_2 : zbox [(1, 2147483648, 2147483745)] (fun vs => zFrun (zpost (zAlq al_X9_records_0)) 1000 t_X9_records fm_X9_records_0 bf_X9_records_0 (2, vs)) = true := by decide +kernel
set_option maxRecDepth 100000 in
theorem x_X9_records_0 (d : Nat) : zS l G gh (d + 2) (zpost (zAlq al_X9_records_0)) n_X9_records (zn 0 p_X9_records 0) (zwc (0, [.inr (.ref 292)], zP q_X9_records_0) 0) := zentry (tt_X9_records d) fm_X9_records_0 bf_X9_records_0 1000 (by decide +kernel) rfl ⟨Nat.zero_lt_succ _, trivial⟩ (fun f hf => match f, hf with
  | 0, _ => fun vs hv => (zbox_t r_X9_records_0_0) vs hv
  | 1, _ => fun vs hv => (zbox_t r_X9_records_0_1) vs hv
  | 2, _ => fun vs hv => (zbox_t r_X9_records_0_2) vs hv
  | f + 3, h => absurd (show f + 3 < 3 from h) (Nat.not_lt.mpr (Nat.le_add_left 3 f)))
noncomputable def gs_X9_records_0 : zMt := zgq false [] 2 [.inr (.ref 292)] q_X9_records_0 al_X9_records_0
set_option maxRecDepth 100000 in
theorem cs_X9_records_0 (d : Nat) : zC l G gh (d + 2) n_X9_records gs_X9_records_0 := zgq_ok0 (pcs := p_X9_records) (by decide) rfl rfl (fun a ha => by simp only [al_X9_records_0, List.mem_cons, List.not_mem_nil, or_false] at ha; rcases ha with rfl <;> decide +kernel) (fun gh => x_X9_records_0 d) (by decide +kernel)
noncomputable def gs_X9_records : zMt := gs_X9_records_0
theorem cs_X9_records (d : Nat) : zC l G gh (d + 2) n_X9_records gs_X9_records := (cs_X9_records_0 d)
def n_X9_isLong : qMn := (yX9_isLong, cX9_isLong, 1, (some Jvm.ClassFile.FieldType.boolean), 0, 0)
theorem to_X9_isLong : qTo n_X9_isLong 1 := ⟨g1545, g110, ⟨by decide, by decide, by decide +kernel⟩, by decide⟩
def p_X9_isLong : List Nat := [0]
noncomputable def b_X9_isLong_0 : zBl := fun jp K => oIld 0 <| oInt 2147483648 <| oInt 2147483696 <| oCs 3 f_X9_in <| oZret K
theorem s_X9_isLong_0 (d : Nat) : zPb l G gh (d + 2) n_X9_isLong p_X9_isLong 0 b_X9_isLong_0 := fun K jp hj =>
    z_iload_n (n := 0) (i := 0) (zd (i := .iload_n 0) (n := 1) (by decide +kernel)) rfl <|
    z_iconst (n := 0) (zd (i := .iconst (0)) (n := 1) (by decide +kernel)) (by decide +kernel) <|
    z_bipush (n := 48) (zd (i := .bipush (48)) (n := 2) (by decide +kernel)) (by decide +kernel) <|
    z_callS (idx := 304) (N := n_X9_in) (zd (i := .invokestatic 304) (n := 3) (by decide +kernel)) to_X9_in g1442 g1443 rfl rfl (c_X9_in (l := l) (G := G) (gh := gh) (d)) <|
    z_zret (zd (i := .ireturn) (n := 1) (by decide +kernel)) rfl
noncomputable def t_X9_isLong : List zBl := [b_X9_isLong_0]
theorem tt_X9_isLong (d : Nat) : zT (zPb l G gh (d + 2) n_X9_isLong p_X9_isLong) t_X9_isLong p_X9_isLong := ⟨s_X9_isLong_0 d, trivial⟩
noncomputable def f_X9_isLong : zMt := zmet 1 t_X9_isLong
theorem c_X9_isLong (d : Nat) : zC l G gh (d + 2) n_X9_isLong f_X9_isLong := zmet_ok (pcs := p_X9_isLong) (by decide) rfl rfl (tt_X9_isLong d)
def n_X9_isWind : qMn := (yX9_isWind, cX9_isWind, 1, (some Jvm.ClassFile.FieldType.boolean), 0, 0)
theorem to_X9_isWind : qTo n_X9_isWind 0 := ⟨g1557, g110, ⟨by decide, by decide, by decide +kernel⟩, by decide⟩
def p_X9_isWind : List Nat := [0, 38, 42, 43]
noncomputable def b_X9_isWind_0 : zBl := fun jp K => oAld 0 <| oGetI 9 50 <| oInt 2147483767 <| oCs 2 f_X9_mixed <| oInt 2147483652 <| oAld 0 <| oGetR 9 49 <| oInt 2147483744 <| oXald 10 <| oB2 zimul <| oCs 2 f_X9_mixed <| oInt 2147483649 <| oB2 ziushr <| oInt 2147483748 <| oB2z zirem <| oAld 0 <| oGetR 9 29 <| oAld 0 <| oGetI 9 18 <| oXald 10 <| oIc zge zlt (jp 2) (jp 1)
theorem s_X9_isWind_0 (d : Nat) : zPb l G gh (d + 2) n_X9_isWind p_X9_isWind 0 b_X9_isWind_0 := fun K jp hj =>
    z_aload_n (n := 0) (i := 0) (zd (i := .aload_n 0) (n := 1) (by decide +kernel)) rfl <|
    z_getI (ci := 9) (j := 50) (idx := 308) (zd (i := .getfield 308) (n := 3) (by decide +kernel)) (by decide +kernel) (by decide +kernel) rfl g1178 <|
    z_bipush (n := 119) (zd (i := .bipush (119)) (n := 2) (by decide +kernel)) (by decide +kernel) <|
    z_callS (idx := 312) (N := n_X9_mixed) (zd (i := .invokestatic 312) (n := 3) (by decide +kernel)) to_X9_mixed g1558 g1559 rfl rfl (c_X9_mixed (l := l) (G := G) (gh := gh) (d)) <|
    z_iconst (n := 4) (zd (i := .iconst (4)) (n := 1) (by decide +kernel)) (by decide +kernel) <|
    z_aload_n (n := 0) (i := 0) (zd (i := .aload_n 0) (n := 1) (by decide +kernel)) rfl <|
    z_getR (ci := 9) (j := 49) (idx := 113) (zd (i := .getfield 113) (n := 3) (by decide +kernel)) (by decide +kernel) (by decide +kernel) rfl g1177 <|
    z_bipush (n := 96) (zd (i := .bipush (96)) (n := 2) (by decide +kernel)) (by decide +kernel) <|
    z_iald (zd (i := .iaload) (n := 1) (by decide +kernel)) <|
    z_imul (zd (i := .imul) (n := 1) (by decide +kernel)) <|
    z_callS (idx := 312) (N := n_X9_mixed) (zd (i := .invokestatic 312) (n := 3) (by decide +kernel)) to_X9_mixed g1558 g1559 rfl rfl (c_X9_mixed (l := l) (G := G) (gh := gh) (d)) <|
    z_iconst (n := 1) (zd (i := .iconst (1)) (n := 1) (by decide +kernel)) (by decide +kernel) <|
    z_iushr (zd (i := .iushr) (n := 1) (by decide +kernel)) <|
    z_bipush (n := 100) (zd (i := .bipush (100)) (n := 2) (by decide +kernel)) (by decide +kernel) <|
    z_irem (zd (i := .irem) (n := 1) (by decide +kernel)) <|
    z_aload_n (n := 0) (i := 0) (zd (i := .aload_n 0) (n := 1) (by decide +kernel)) rfl <|
    z_getR (ci := 9) (j := 29) (idx := 64) (zd (i := .getfield 64) (n := 3) (by decide +kernel)) (by decide +kernel) (by decide +kernel) rfl g1157 <|
    z_aload_n (n := 0) (i := 0) (zd (i := .aload_n 0) (n := 1) (by decide +kernel)) rfl <|
    z_getI (ci := 9) (j := 18) (idx := 230) (zd (i := .getfield 230) (n := 3) (by decide +kernel)) (by decide +kernel) (by decide +kernel) rfl g1146 <|
    z_iald (zd (i := .iaload) (n := 1) (by decide +kernel)) <|
    z_icmp_ge (off := 7) (tgt := 42) (zd (i := .if_icmp .ge (7)) (n := 3) (by decide +kernel)) (by decide +kernel) (zj (hj 2) (by decide +kernel)) (zj (hj 1) (by decide +kernel))
noncomputable def b_X9_isWind_1 : zBl := fun jp K => oInt 2147483649 <| jp 3
theorem s_X9_isWind_1 (d : Nat) : zPb l G gh (d + 2) n_X9_isWind p_X9_isWind 38 b_X9_isWind_1 := fun K jp hj =>
    z_iconst (n := 1) (zd (i := .iconst (1)) (n := 1) (by decide +kernel)) (by decide +kernel) <|
    z_goto (off := 4) (tgt := 43) (zd (i := .goto (4)) (n := 3) (by decide +kernel)) (by decide +kernel) (zj (hj 3) (by decide +kernel))
noncomputable def b_X9_isWind_2 : zBl := fun jp K => oInt 2147483648 <| jp 3
theorem s_X9_isWind_2 (d : Nat) : zPb l G gh (d + 2) n_X9_isWind p_X9_isWind 42 b_X9_isWind_2 := fun K jp hj =>
    z_iconst (n := 0) (zd (i := .iconst (0)) (n := 1) (by decide +kernel)) (by decide +kernel) <|
    (zj (hj 3) (by decide +kernel))
noncomputable def b_X9_isWind_3 : zBl := fun jp K => oZret K
theorem s_X9_isWind_3 (d : Nat) : zPb l G gh (d + 2) n_X9_isWind p_X9_isWind 43 b_X9_isWind_3 := fun K jp hj =>
    z_zret (zd (i := .ireturn) (n := 1) (by decide +kernel)) rfl
noncomputable def t_X9_isWind : List zBl := [b_X9_isWind_0, b_X9_isWind_1, b_X9_isWind_2, b_X9_isWind_3]
theorem tt_X9_isWind (d : Nat) : zT (zPb l G gh (d + 2) n_X9_isWind p_X9_isWind) t_X9_isWind p_X9_isWind := ⟨s_X9_isWind_0 d, s_X9_isWind_1 d, s_X9_isWind_2 d, s_X9_isWind_3 d, trivial⟩
noncomputable def f_X9_isWind : zMt := zmet 1 t_X9_isWind
theorem c_X9_isWind (d : Nat) : zC l G gh (d + 2) n_X9_isWind f_X9_isWind := zmet_ok (pcs := p_X9_isWind) (by decide) rfl rfl (tt_X9_isWind d)
def n_X9_isSome : qMn := (yX9_isSome, cX9_isSome, 1, (some Jvm.ClassFile.FieldType.boolean), 0, 0)
theorem to_X9_isSome : qTo n_X9_isSome 1 := ⟨g1600, g110, ⟨by decide, by decide, by decide +kernel⟩, by decide⟩
def p_X9_isSome : List Nat := [0]
noncomputable def b_X9_isSome_0 : zBl := fun jp K => oIld 0 <| oInt 2147483649 <| oInt 2147483696 <| oCs 3 f_X9_in <| oZret K
theorem s_X9_isSome_0 (d : Nat) : zPb l G gh (d + 2) n_X9_isSome p_X9_isSome 0 b_X9_isSome_0 := fun K jp hj =>
    z_iload_n (n := 0) (i := 0) (zd (i := .iload_n 0) (n := 1) (by decide +kernel)) rfl <|
    z_iconst (n := 1) (zd (i := .iconst (1)) (n := 1) (by decide +kernel)) (by decide +kernel) <|
    z_bipush (n := 48) (zd (i := .bipush (48)) (n := 2) (by decide +kernel)) (by decide +kernel) <|
    z_callS (idx := 304) (N := n_X9_in) (zd (i := .invokestatic 304) (n := 3) (by decide +kernel)) to_X9_in g1442 g1443 rfl rfl (c_X9_in (l := l) (G := G) (gh := gh) (d)) <|
    z_zret (zd (i := .ireturn) (n := 1) (by decide +kernel)) rfl
noncomputable def t_X9_isSome : List zBl := [b_X9_isSome_0]
theorem tt_X9_isSome (d : Nat) : zT (zPb l G gh (d + 2) n_X9_isSome p_X9_isSome) t_X9_isSome p_X9_isSome := ⟨s_X9_isSome_0 d, trivial⟩
noncomputable def f_X9_isSome : zMt := zmet 1 t_X9_isSome
theorem c_X9_isSome (d : Nat) : zC l G gh (d + 2) n_X9_isSome f_X9_isSome := zmet_ok (pcs := p_X9_isSome) (by decide) rfl rfl (tt_X9_isSome d)
def n_X9_hold : qMn := (yX9_hold, cX9_hold, 3, (some Jvm.ClassFile.FieldType.boolean), 0, 0)
theorem to_X9_hold : qTo n_X9_hold 1 := ⟨g1700, g110, ⟨by decide, by decide, by decide +kernel⟩, by decide⟩
def p_X9_hold : List Nat := [0, 9, 11, 20, 26, 49]
noncomputable def b_X9_hold_0 : zBl := fun jp K => oIld 1 <| oInt 2147483648 <| oInt 2147483650 <| oCs 3 f_X9_in <| oIf zne zeq (jp 2) (jp 1)
theorem s_X9_hold_0 (d : Nat) : zPb l G gh (d + 2) n_X9_hold p_X9_hold 0 b_X9_hold_0 := fun K jp hj =>
    z_iload_n (n := 1) (i := 1) (zd (i := .iload_n 1) (n := 1) (by decide +kernel)) rfl <|
    z_iconst (n := 0) (zd (i := .iconst (0)) (n := 1) (by decide +kernel)) (by decide +kernel) <|
    z_iconst (n := 2) (zd (i := .iconst (2)) (n := 1) (by decide +kernel)) (by decide +kernel) <|
    z_callS (idx := 304) (N := n_X9_in) (zd (i := .invokestatic 304) (n := 3) (by decide +kernel)) to_X9_in g1442 g1443 rfl rfl (c_X9_in (l := l) (G := G) (gh := gh) (d)) <|
    z_if_ne (off := 5) (tgt := 11) (zd (i := .ifCond .ne (5)) (n := 3) (by decide +kernel)) (by decide +kernel) (zj (hj 2) (by decide +kernel)) (zj (hj 1) (by decide +kernel))
noncomputable def b_X9_hold_1 : zBl := fun jp K => oInt 2147483648 <| oZret K
theorem s_X9_hold_1 (d : Nat) : zPb l G gh (d + 2) n_X9_hold p_X9_hold 9 b_X9_hold_1 := fun K jp hj =>
    z_iconst (n := 0) (zd (i := .iconst (0)) (n := 1) (by decide +kernel)) (by decide +kernel) <|
    z_zret (zd (i := .ireturn) (n := 1) (by decide +kernel)) rfl
noncomputable def b_X9_hold_2 : zBl := fun jp K => oAld 0 <| oGetR 9 63 <| oIld 1 <| oInt 2147483649 <| oXast 12 znz1 <| oInt 2147483648 <| oIst 2 <| jp 3
theorem s_X9_hold_2 (d : Nat) : zPb l G gh (d + 2) n_X9_hold p_X9_hold 11 b_X9_hold_2 := fun K jp hj =>
    z_aload_n (n := 0) (i := 0) (zd (i := .aload_n 0) (n := 1) (by decide +kernel)) rfl <|
    z_getR (ci := 9) (j := 63) (idx := 143) (zd (i := .getfield 143) (n := 3) (by decide +kernel)) (by decide +kernel) (by decide +kernel) rfl g1191 <|
    z_iload_n (n := 1) (i := 1) (zd (i := .iload_n 1) (n := 1) (by decide +kernel)) rfl <|
    z_iconst (n := 1) (zd (i := .iconst (1)) (n := 1) (by decide +kernel)) (by decide +kernel) <|
    z_zast (zd (i := .bastore) (n := 1) (by decide +kernel)) <|
    z_iconst (n := 0) (zd (i := .iconst (0)) (n := 1) (by decide +kernel)) (by decide +kernel) <|
    z_istore_n (n := 2) (i := 2) (zd (i := .istore_n 2) (n := 1) (by decide +kernel)) rfl (by decide +kernel) <|
    (zj (hj 3) (by decide +kernel))
noncomputable def b_X9_hold_3 : zBl := fun jp K => oNLC 2 2147483745 zgeN zltN zn1_ge zn1_lt (jp 5) (jp 4)
theorem s_X9_hold_3 (d : Nat) : zPb l G gh (d + 2) n_X9_hold p_X9_hold 20 b_X9_hold_3 := fun K jp hj =>
    z_nLC_ge (i := 2) (c0 := 2147483745) (a1 := 1) (a2 := 2) (off := 26) (tgt := 49) (zLd_n (n := 2) (i := 2) (zd (i := .iload_n 2) (n := 1) (by decide +kernel)) rfl) (zCn_b (n := 97) (zd (i := .bipush (97)) (n := 2) (by decide +kernel)) (by decide +kernel)) (zd (i := .if_icmp .ge (26)) (n := 3) (by decide +kernel)) (by decide +kernel) (zj (hj 5) (by decide +kernel)) (zj (hj 4) (by decide +kernel))
noncomputable def b_X9_hold_4 : zBl := fun jp K => oAld 0 <| oGetR 9 64 <| oInt 2147483745 <| oIld 1 <| oB2 zimul <| oIld 2 <| oB2 zadd <| oAld 0 <| oGetR 9 48 <| oIld 2 <| oXald 10 <| oXast 10 zid <| oInc 2 2147483649 <| jp 3
theorem s_X9_hold_4 (d : Nat) : zPb l G gh (d + 2) n_X9_hold p_X9_hold 26 b_X9_hold_4 := fun K jp hj =>
    z_aload_n (n := 0) (i := 0) (zd (i := .aload_n 0) (n := 1) (by decide +kernel)) rfl <|
    z_getR (ci := 9) (j := 64) (idx := 146) (zd (i := .getfield 146) (n := 3) (by decide +kernel)) (by decide +kernel) (by decide +kernel) rfl g1192 <|
    z_bipush (n := 97) (zd (i := .bipush (97)) (n := 2) (by decide +kernel)) (by decide +kernel) <|
    z_iload_n (n := 1) (i := 1) (zd (i := .iload_n 1) (n := 1) (by decide +kernel)) rfl <|
    z_imul (zd (i := .imul) (n := 1) (by decide +kernel)) <|
    z_iload_n (n := 2) (i := 2) (zd (i := .iload_n 2) (n := 1) (by decide +kernel)) rfl <|
    z_iadd (zd (i := .iadd) (n := 1) (by decide +kernel)) <|
    z_aload_n (n := 0) (i := 0) (zd (i := .aload_n 0) (n := 1) (by decide +kernel)) rfl <|
    z_getR (ci := 9) (j := 48) (idx := 110) (zd (i := .getfield 110) (n := 3) (by decide +kernel)) (by decide +kernel) (by decide +kernel) rfl g1176 <|
    z_iload_n (n := 2) (i := 2) (zd (i := .iload_n 2) (n := 1) (by decide +kernel)) rfl <|
    z_iald (zd (i := .iaload) (n := 1) (by decide +kernel)) <|
    z_iast (zd (i := .iastore) (n := 1) (by decide +kernel)) <|
    z_iinc (i := 2) (n := 1) (zd (i := .iinc 2 (1)) (n := 3) (by decide +kernel)) (by decide +kernel) (by decide +kernel) <|
    z_goto (off := -26) (tgt := 20) (zd (i := .goto (-26)) (n := 3) (by decide +kernel)) (by decide +kernel) (zj (hj 3) (by decide +kernel))
noncomputable def b_X9_hold_5 : zBl := fun jp K => oInt 2147483649 <| oZret K
theorem s_X9_hold_5 (d : Nat) : zPb l G gh (d + 2) n_X9_hold p_X9_hold 49 b_X9_hold_5 := fun K jp hj =>
    z_iconst (n := 1) (zd (i := .iconst (1)) (n := 1) (by decide +kernel)) (by decide +kernel) <|
    z_zret (zd (i := .ireturn) (n := 1) (by decide +kernel)) rfl
noncomputable def t_X9_hold : List zBl := [b_X9_hold_0, b_X9_hold_1, b_X9_hold_2, b_X9_hold_3, b_X9_hold_4, b_X9_hold_5]
theorem tt_X9_hold (d : Nat) : zT (zPb l G gh (d + 2) n_X9_hold p_X9_hold) t_X9_hold p_X9_hold := ⟨s_X9_hold_0 d, s_X9_hold_1 d, s_X9_hold_2 d, s_X9_hold_3 d, s_X9_hold_4 d, s_X9_hold_5 d, trivial⟩
def q_X9_hold_0 : List (Nat × Nat) := [(292, zk102), (323, zk104), (334, zk13), (335, zk114)]
noncomputable def al_X9_hold_0 : zAq := [(some (.inl 2147483649), [(292, zk102), (323, zk104), (334, zk92), (335, zk115)])]
def mq_X9_hold_0_1 : List (Nat × Nat) := [(292, zk102), (323, zk104), (334, zk92), (335, zk115)]
noncomputable def fm_X9_hold_0 : List zFm := [(0, [], (fun vs => [.inr (.ref 292), .inl 2147483648]), (fun vs => zP q_X9_hold_0), (fun vs => Nat.sub (Nat.add 98 0) 0)),
  (3, [(2, 2147483648, 2147483745)], (fun vs => [.inr (.ref 292), .inl 2147483648, .inl (zn 0 vs 0)]), (fun vs => zP mq_X9_hold_0_1), (fun vs => Nat.sub (Nat.add 2147483745 0) (Nat.add 0 (Nat.mul 1 (zn 0 vs 0)))))]
def bf_X9_hold_0 : List Nat := [0, 0, 0, 2]
theorem r_X9_hold_0_0 : zbox [] (fun vs => zFrun (zpost (zAlq al_X9_hold_0)) 1000 t_X9_hold fm_X9_hold_0 bf_X9_hold_0 (0, vs)) = true := by decide +kernel
theorem r_X9_hold_0_1 : zbox [(2, 2147483648, 2147483745)] (fun vs => zFrun (zpost (zAlq al_X9_hold_0)) 1000 t_X9_hold fm_X9_hold_0 bf_X9_hold_0 (1, vs)) = true := by decide +kernel
set_option maxRecDepth 100000 in
theorem x_X9_hold_0 (d : Nat) : zS l G gh (d + 2) (zpost (zAlq al_X9_hold_0)) n_X9_hold (zn 0 p_X9_hold 0) (zwc (0, [.inr (.ref 292), .inl 2147483648], zP q_X9_hold_0) 0) := zentry (tt_X9_hold d) fm_X9_hold_0 bf_X9_hold_0 1000 (by decide +kernel) rfl ⟨Nat.zero_lt_succ _, trivial⟩ (fun f hf => match f, hf with
  | 0, _ => fun vs hv => (zbox_t r_X9_hold_0_0) vs hv
  | 1, _ => fun vs hv => (zbox_t r_X9_hold_0_1) vs hv
  | f + 2, h => absurd (show f + 2 < 2 from h) (Nat.not_lt.mpr (Nat.le_add_left 2 f)))
noncomputable def gs_X9_hold_0 : zMt := zgq false [] 3 [.inr (.ref 292), .inl 2147483648] q_X9_hold_0 al_X9_hold_0
set_option maxRecDepth 100000 in
theorem cs_X9_hold_0 (d : Nat) : zC l G gh (d + 2) n_X9_hold gs_X9_hold_0 := zgq_ok0 (pcs := p_X9_hold) (by decide) rfl rfl (fun a ha => by simp only [al_X9_hold_0, List.mem_cons, List.not_mem_nil, or_false] at ha; rcases ha with rfl <;> decide +kernel) (fun gh => x_X9_hold_0 d) (by decide +kernel)
def q_X9_hold_1 : List (Nat × Nat) := [(292, zk102), (323, zk104), (334, zk13), (335, zk114)]
noncomputable def al_X9_hold_1 : zAq := [(some (.inl 2147483649), [(292, zk102), (323, zk104), (334, zk92), (335, zk115)])]
def mq_X9_hold_1_1 : List (Nat × Nat) := [(292, zk102), (323, zk104), (334, zk92), (335, zk115)]
noncomputable def fm_X9_hold_1 : List zFm := [(0, [], (fun vs => [.inr (.ref 292), .inl 2147483649]), (fun vs => zP q_X9_hold_1), (fun vs => Nat.sub (Nat.add 98 0) 0)),
  (3, [(2, 2147483648, 2147483745)], (fun vs => [.inr (.ref 292), .inl 2147483649, .inl (zn 0 vs 0)]), (fun vs => zP mq_X9_hold_1_1), (fun vs => Nat.sub (Nat.add 2147483745 0) (Nat.add 0 (Nat.mul 1 (zn 0 vs 0)))))]
def bf_X9_hold_1 : List Nat := [0, 0, 0, 2]
theorem r_X9_hold_1_0 : zbox [] (fun vs => zFrun (zpost (zAlq al_X9_hold_1)) 1000 t_X9_hold fm_X9_hold_1 bf_X9_hold_1 (0, vs)) = true := by decide +kernel
theorem r_X9_hold_1_1 : zbox [(2, 2147483648, 2147483745)] (fun vs => zFrun (zpost (zAlq al_X9_hold_1)) 1000 t_X9_hold fm_X9_hold_1 bf_X9_hold_1 (1, vs)) = true := by decide +kernel
set_option maxRecDepth 100000 in
theorem x_X9_hold_1 (d : Nat) : zS l G gh (d + 2) (zpost (zAlq al_X9_hold_1)) n_X9_hold (zn 0 p_X9_hold 0) (zwc (0, [.inr (.ref 292), .inl 2147483649], zP q_X9_hold_1) 0) := zentry (tt_X9_hold d) fm_X9_hold_1 bf_X9_hold_1 1000 (by decide +kernel) rfl ⟨Nat.zero_lt_succ _, trivial⟩ (fun f hf => match f, hf with
  | 0, _ => fun vs hv => (zbox_t r_X9_hold_1_0) vs hv
  | 1, _ => fun vs hv => (zbox_t r_X9_hold_1_1) vs hv
  | f + 2, h => absurd (show f + 2 < 2 from h) (Nat.not_lt.mpr (Nat.le_add_left 2 f)))
noncomputable def gs_X9_hold_1 : zMt := zgq false [] 3 [.inr (.ref 292), .inl 2147483649] q_X9_hold_1 al_X9_hold_1
set_option maxRecDepth 100000 in
theorem cs_X9_hold_1 (d : Nat) : zC l G gh (d + 2) n_X9_hold gs_X9_hold_1 := zgq_ok0 (pcs := p_X9_hold) (by decide) rfl rfl (fun a ha => by simp only [al_X9_hold_1, List.mem_cons, List.not_mem_nil, or_false] at ha; rcases ha with rfl <;> decide +kernel) (fun gh => x_X9_hold_1 d) (by decide +kernel)
def q_X9_hold_2 : List (Nat × Nat) := [(292, zk102), (323, zk104), (334, zk13), (335, zk114)]
noncomputable def al_X9_hold_2 : zAq := [(some (.inl 2147483649), [(292, zk102), (323, zk104), (334, zk92), (335, zk115)])]
def mq_X9_hold_2_1 : List (Nat × Nat) := [(292, zk102), (323, zk104), (334, zk92), (335, zk115)]
noncomputable def fm_X9_hold_2 : List zFm := [(0, [], (fun vs => [.inr (.ref 292), .inl 2147483650]), (fun vs => zP q_X9_hold_2), (fun vs => Nat.sub (Nat.add 98 0) 0)),
  (3, [(2, 2147483648, 2147483745)], (fun vs => [.inr (.ref 292), .inl 2147483650, .inl (zn 0 vs 0)]), (fun vs => zP mq_X9_hold_2_1), (fun vs => Nat.sub (Nat.add 2147483745 0) (Nat.add 0 (Nat.mul 1 (zn 0 vs 0)))))]
def bf_X9_hold_2 : List Nat := [0, 0, 0, 2]
theorem r_X9_hold_2_0 : zbox [] (fun vs => zFrun (zpost (zAlq al_X9_hold_2)) 1000 t_X9_hold fm_X9_hold_2 bf_X9_hold_2 (0, vs)) = true := by decide +kernel
theorem r_X9_hold_2_1 : zbox [(2, 2147483648, 2147483745)] (fun vs => zFrun (zpost (zAlq al_X9_hold_2)) 1000 t_X9_hold fm_X9_hold_2 bf_X9_hold_2 (1, vs)) = true := by decide +kernel
set_option maxRecDepth 100000 in
theorem x_X9_hold_2 (d : Nat) : zS l G gh (d + 2) (zpost (zAlq al_X9_hold_2)) n_X9_hold (zn 0 p_X9_hold 0) (zwc (0, [.inr (.ref 292), .inl 2147483650], zP q_X9_hold_2) 0) := zentry (tt_X9_hold d) fm_X9_hold_2 bf_X9_hold_2 1000 (by decide +kernel) rfl ⟨Nat.zero_lt_succ _, trivial⟩ (fun f hf => match f, hf with
  | 0, _ => fun vs hv => (zbox_t r_X9_hold_2_0) vs hv
  | 1, _ => fun vs hv => (zbox_t r_X9_hold_2_1) vs hv
  | f + 2, h => absurd (show f + 2 < 2 from h) (Nat.not_lt.mpr (Nat.le_add_left 2 f)))
noncomputable def gs_X9_hold_2 : zMt := zgq false [] 3 [.inr (.ref 292), .inl 2147483650] q_X9_hold_2 al_X9_hold_2
set_option maxRecDepth 100000 in
theorem cs_X9_hold_2 (d : Nat) : zC l G gh (d + 2) n_X9_hold gs_X9_hold_2 := zgq_ok0 (pcs := p_X9_hold) (by decide) rfl rfl (fun a ha => by simp only [al_X9_hold_2, List.mem_cons, List.not_mem_nil, or_false] at ha; rcases ha with rfl <;> decide +kernel) (fun gh => x_X9_hold_2 d) (by decide +kernel)
def q_X9_hold_3 : List (Nat × Nat) := []
noncomputable def al_X9_hold_3 : zAq := [(some (.inl 2147483648), [])]
noncomputable def fm_X9_hold_3 : List zFm := [(0, [], (fun vs => [.inr (.ref 292), .inl 6442450943]), (fun vs => zP q_X9_hold_3), (fun vs => Nat.sub (Nat.add 0 0) 0))]
def bf_X9_hold_3 : List Nat := []
theorem r_X9_hold_3_0 : zbox [] (fun vs => zFrun (zpost (zAlq al_X9_hold_3)) 1000 t_X9_hold fm_X9_hold_3 bf_X9_hold_3 (0, vs)) = true := by decide +kernel
set_option maxRecDepth 100000 in
theorem x_X9_hold_3 (d : Nat) : zS l G gh (d + 2) (zpost (zAlq al_X9_hold_3)) n_X9_hold (zn 0 p_X9_hold 0) (zwc (0, [.inr (.ref 292), .inl 6442450943], zP q_X9_hold_3) 0) := zentry (tt_X9_hold d) fm_X9_hold_3 bf_X9_hold_3 1000 (by decide +kernel) rfl ⟨Nat.zero_lt_succ _, trivial⟩ (fun f hf => match f, hf with
  | 0, _ => fun vs hv => (zbox_t r_X9_hold_3_0) vs hv
  | f + 1, h => absurd (show f + 1 < 1 from h) (Nat.not_lt.mpr (Nat.le_add_left 1 f)))
noncomputable def gs_X9_hold_3 : zMt := zgq false [] 3 [.inr (.ref 292), .inl 6442450943] q_X9_hold_3 al_X9_hold_3
set_option maxRecDepth 100000 in
theorem cs_X9_hold_3 (d : Nat) : zC l G gh (d + 2) n_X9_hold gs_X9_hold_3 := zgq_ok0 (pcs := p_X9_hold) (by decide) rfl rfl (fun a ha => by simp only [al_X9_hold_3, List.mem_cons, List.not_mem_nil, or_false] at ha; rcases ha with rfl <;> decide +kernel) (fun gh => x_X9_hold_3 d) (by decide +kernel)
def q_X9_hold_4 : List (Nat × Nat) := []
noncomputable def al_X9_hold_4 : zAq := [(some (.inl 2147483648), [])]
noncomputable def fm_X9_hold_4 : List zFm := [(0, [], (fun vs => [.inr (.ref 292), .inl 9223372058329612287]), (fun vs => zP q_X9_hold_4), (fun vs => Nat.sub (Nat.add 0 0) 0))]
def bf_X9_hold_4 : List Nat := []
theorem r_X9_hold_4_0 : zbox [] (fun vs => zFrun (zpost (zAlq al_X9_hold_4)) 1000 t_X9_hold fm_X9_hold_4 bf_X9_hold_4 (0, vs)) = true := by decide +kernel
set_option maxRecDepth 100000 in
theorem x_X9_hold_4 (d : Nat) : zS l G gh (d + 2) (zpost (zAlq al_X9_hold_4)) n_X9_hold (zn 0 p_X9_hold 0) (zwc (0, [.inr (.ref 292), .inl 9223372058329612287], zP q_X9_hold_4) 0) := zentry (tt_X9_hold d) fm_X9_hold_4 bf_X9_hold_4 1000 (by decide +kernel) rfl ⟨Nat.zero_lt_succ _, trivial⟩ (fun f hf => match f, hf with
  | 0, _ => fun vs hv => (zbox_t r_X9_hold_4_0) vs hv
  | f + 1, h => absurd (show f + 1 < 1 from h) (Nat.not_lt.mpr (Nat.le_add_left 1 f)))
noncomputable def gs_X9_hold_4 : zMt := zgq false [] 3 [.inr (.ref 292), .inl 9223372058329612287] q_X9_hold_4 al_X9_hold_4
set_option maxRecDepth 100000 in
theorem cs_X9_hold_4 (d : Nat) : zC l G gh (d + 2) n_X9_hold gs_X9_hold_4 := zgq_ok0 (pcs := p_X9_hold) (by decide) rfl rfl (fun a ha => by simp only [al_X9_hold_4, List.mem_cons, List.not_mem_nil, or_false] at ha; rcases ha with rfl <;> decide +kernel) (fun gh => x_X9_hold_4 d) (by decide +kernel)
noncomputable def gs_X9_hold : zMt := (zor gs_X9_hold_0 (zor gs_X9_hold_1 (zor gs_X9_hold_2 (zor gs_X9_hold_3 gs_X9_hold_4))))
theorem cs_X9_hold (d : Nat) : zC l G gh (d + 2) n_X9_hold gs_X9_hold := (zor_ok (cs_X9_hold_0 d) (zor_ok (cs_X9_hold_1 d) (zor_ok (cs_X9_hold_2 d) (zor_ok (cs_X9_hold_3 d) (cs_X9_hold_4 d)))))
def n_X9_restore : qMn := (yX9_restore, cX9_restore, 3, (some Jvm.ClassFile.FieldType.boolean), 0, 0)
theorem to_X9_restore : qTo n_X9_restore 1 := ⟨g1704, g110, ⟨by decide, by decide, by decide +kernel⟩, by decide⟩
def p_X9_restore : List Nat := [0, 9, 18, 20, 22, 28, 51]
noncomputable def b_X9_restore_0 : zBl := fun jp K => oIld 1 <| oInt 2147483648 <| oInt 2147483650 <| oCs 3 f_X9_in <| oIf zeq zne (jp 2) (jp 1)
theorem s_X9_restore_0 (d : Nat) : zPb l G gh (d + 2) n_X9_restore p_X9_restore 0 b_X9_restore_0 := fun K jp hj =>
    z_iload_n (n := 1) (i := 1) (zd (i := .iload_n 1) (n := 1) (by decide +kernel)) rfl <|
    z_iconst (n := 0) (zd (i := .iconst (0)) (n := 1) (by decide +kernel)) (by decide +kernel) <|
    z_iconst (n := 2) (zd (i := .iconst (2)) (n := 1) (by decide +kernel)) (by decide +kernel) <|
    z_callS (idx := 304) (N := n_X9_in) (zd (i := .invokestatic 304) (n := 3) (by decide +kernel)) to_X9_in g1442 g1443 rfl rfl (c_X9_in (l := l) (G := G) (gh := gh) (d)) <|
    z_if_eq (off := 12) (tgt := 18) (zd (i := .ifCond .eq (12)) (n := 3) (by decide +kernel)) (by decide +kernel) (zj (hj 2) (by decide +kernel)) (zj (hj 1) (by decide +kernel))
noncomputable def b_X9_restore_1 : zBl := fun jp K => oAld 0 <| oGetR 9 63 <| oIld 1 <| oXald 12 <| oIf zne zeq (jp 3) (jp 2)
theorem s_X9_restore_1 (d : Nat) : zPb l G gh (d + 2) n_X9_restore p_X9_restore 9 b_X9_restore_1 := fun K jp hj =>
    z_aload_n (n := 0) (i := 0) (zd (i := .aload_n 0) (n := 1) (by decide +kernel)) rfl <|
    z_getR (ci := 9) (j := 63) (idx := 143) (zd (i := .getfield 143) (n := 3) (by decide +kernel)) (by decide +kernel) (by decide +kernel) rfl g1191 <|
    z_iload_n (n := 1) (i := 1) (zd (i := .iload_n 1) (n := 1) (by decide +kernel)) rfl <|
    z_zald (zd (i := .baload) (n := 1) (by decide +kernel)) <|
    z_if_ne (off := 5) (tgt := 20) (zd (i := .ifCond .ne (5)) (n := 3) (by decide +kernel)) (by decide +kernel) (zj (hj 3) (by decide +kernel)) (zj (hj 2) (by decide +kernel))
noncomputable def b_X9_restore_2 : zBl := fun jp K => oInt 2147483648 <| oZret K
theorem s_X9_restore_2 (d : Nat) : zPb l G gh (d + 2) n_X9_restore p_X9_restore 18 b_X9_restore_2 := fun K jp hj =>
    z_iconst (n := 0) (zd (i := .iconst (0)) (n := 1) (by decide +kernel)) (by decide +kernel) <|
    z_zret (zd (i := .ireturn) (n := 1) (by decide +kernel)) rfl
noncomputable def b_X9_restore_3 : zBl := fun jp K => oInt 2147483648 <| oIst 2 <| jp 4
theorem s_X9_restore_3 (d : Nat) : zPb l G gh (d + 2) n_X9_restore p_X9_restore 20 b_X9_restore_3 := fun K jp hj =>
    z_iconst (n := 0) (zd (i := .iconst (0)) (n := 1) (by decide +kernel)) (by decide +kernel) <|
    z_istore_n (n := 2) (i := 2) (zd (i := .istore_n 2) (n := 1) (by decide +kernel)) rfl (by decide +kernel) <|
    (zj (hj 4) (by decide +kernel))
noncomputable def b_X9_restore_4 : zBl := fun jp K => oNLC 2 2147483745 zgeN zltN zn1_ge zn1_lt (jp 6) (jp 5)
theorem s_X9_restore_4 (d : Nat) : zPb l G gh (d + 2) n_X9_restore p_X9_restore 22 b_X9_restore_4 := fun K jp hj =>
    z_nLC_ge (i := 2) (c0 := 2147483745) (a1 := 1) (a2 := 2) (off := 26) (tgt := 51) (zLd_n (n := 2) (i := 2) (zd (i := .iload_n 2) (n := 1) (by decide +kernel)) rfl) (zCn_b (n := 97) (zd (i := .bipush (97)) (n := 2) (by decide +kernel)) (by decide +kernel)) (zd (i := .if_icmp .ge (26)) (n := 3) (by decide +kernel)) (by decide +kernel) (zj (hj 6) (by decide +kernel)) (zj (hj 5) (by decide +kernel))
noncomputable def b_X9_restore_5 : zBl := fun jp K => oAld 0 <| oGetR 9 48 <| oIld 2 <| oAld 0 <| oGetR 9 64 <| oInt 2147483745 <| oIld 1 <| oB2 zimul <| oIld 2 <| oB2 zadd <| oXald 10 <| oXast 10 zid <| oInc 2 2147483649 <| jp 4
theorem s_X9_restore_5 (d : Nat) : zPb l G gh (d + 2) n_X9_restore p_X9_restore 28 b_X9_restore_5 := fun K jp hj =>
    z_aload_n (n := 0) (i := 0) (zd (i := .aload_n 0) (n := 1) (by decide +kernel)) rfl <|
    z_getR (ci := 9) (j := 48) (idx := 110) (zd (i := .getfield 110) (n := 3) (by decide +kernel)) (by decide +kernel) (by decide +kernel) rfl g1176 <|
    z_iload_n (n := 2) (i := 2) (zd (i := .iload_n 2) (n := 1) (by decide +kernel)) rfl <|
    z_aload_n (n := 0) (i := 0) (zd (i := .aload_n 0) (n := 1) (by decide +kernel)) rfl <|
    z_getR (ci := 9) (j := 64) (idx := 146) (zd (i := .getfield 146) (n := 3) (by decide +kernel)) (by decide +kernel) (by decide +kernel) rfl g1192 <|
    z_bipush (n := 97) (zd (i := .bipush (97)) (n := 2) (by decide +kernel)) (by decide +kernel) <|
    z_iload_n (n := 1) (i := 1) (zd (i := .iload_n 1) (n := 1) (by decide +kernel)) rfl <|
    z_imul (zd (i := .imul) (n := 1) (by decide +kernel)) <|
    z_iload_n (n := 2) (i := 2) (zd (i := .iload_n 2) (n := 1) (by decide +kernel)) rfl <|
    z_iadd (zd (i := .iadd) (n := 1) (by decide +kernel)) <|
    z_iald (zd (i := .iaload) (n := 1) (by decide +kernel)) <|
    z_iast (zd (i := .iastore) (n := 1) (by decide +kernel)) <|
    z_iinc (i := 2) (n := 1) (zd (i := .iinc 2 (1)) (n := 3) (by decide +kernel)) (by decide +kernel) (by decide +kernel) <|
    z_goto (off := -26) (tgt := 22) (zd (i := .goto (-26)) (n := 3) (by decide +kernel)) (by decide +kernel) (zj (hj 4) (by decide +kernel))
noncomputable def b_X9_restore_6 : zBl := fun jp K => oAld 0 <| oInt 2147483648 <| oPutI 9 51 <| oInt 2147483649 <| oZret K
theorem s_X9_restore_6 (d : Nat) : zPb l G gh (d + 2) n_X9_restore p_X9_restore 51 b_X9_restore_6 := fun K jp hj =>
    z_aload_n (n := 0) (i := 0) (zd (i := .aload_n 0) (n := 1) (by decide +kernel)) rfl <|
    z_iconst (n := 0) (zd (i := .iconst (0)) (n := 1) (by decide +kernel)) (by decide +kernel) <|
    z_putI (ci := 9) (j := 51) (idx := 248) (zd (i := .putfield 248) (n := 3) (by decide +kernel)) (by decide +kernel) (by decide +kernel) rfl g1179 (Or.inl rfl) <|
    z_iconst (n := 1) (zd (i := .iconst (1)) (n := 1) (by decide +kernel)) (by decide +kernel) <|
    z_zret (zd (i := .ireturn) (n := 1) (by decide +kernel)) rfl
noncomputable def t_X9_restore : List zBl := [b_X9_restore_0, b_X9_restore_1, b_X9_restore_2, b_X9_restore_3, b_X9_restore_4, b_X9_restore_5, b_X9_restore_6]
theorem tt_X9_restore (d : Nat) : zT (zPb l G gh (d + 2) n_X9_restore p_X9_restore) t_X9_restore p_X9_restore := ⟨s_X9_restore_0 d, s_X9_restore_1 d, s_X9_restore_2 d, s_X9_restore_3 d, s_X9_restore_4 d, s_X9_restore_5 d, s_X9_restore_6 d, trivial⟩
def q_X9_restore_0 : List (Nat × Nat) := [(292, zk102), (323, zk104), (334, zk13), (335, zk114)]
noncomputable def al_X9_restore_0 : zAq := [(some (.inl 9223372043297226753), [(292, zk109), (323, zk106), (334, zk13), (335, zk114)])]
def mq_X9_restore_0_1 : List (Nat × Nat) := [(292, zk102), (323, zk106), (334, zk13), (335, zk114)]
noncomputable def fm_X9_restore_0 : List zFm := [(0, [], (fun vs => [.inr (.ref 292), .inl 2147483648]), (fun vs => zP q_X9_restore_0), (fun vs => Nat.sub (Nat.add 98 0) 0)),
  (4, [(2, 2147483648, 2147483745)], (fun vs => [.inr (.ref 292), .inl 2147483648, .inl (zn 0 vs 0)]), (fun vs => zP mq_X9_restore_0_1), (fun vs => Nat.sub (Nat.add 2147483745 0) (Nat.add 0 (Nat.mul 1 (zn 0 vs 0)))))]
def bf_X9_restore_0 : List Nat := [0, 0, 0, 0, 2]
theorem r_X9_restore_0_0 : zbox [] (fun vs => zFrun (zpost (zAlq al_X9_restore_0)) 1000 t_X9_restore fm_X9_restore_0 bf_X9_restore_0 (0, vs)) = true := by decide +kernel
theorem r_X9_restore_0_1 : zbox [(2, 2147483648, 2147483745)] (fun vs => zFrun (zpost (zAlq al_X9_restore_0)) 1000 t_X9_restore fm_X9_restore_0 bf_X9_restore_0 (1, vs)) = true := by decide +kernel
set_option maxRecDepth 100000 in
theorem x_X9_restore_0 (d : Nat) : zS l G gh (d + 2) (zpost (zAlq al_X9_restore_0)) n_X9_restore (zn 0 p_X9_restore 0) (zwc (0, [.inr (.ref 292), .inl 2147483648], zP q_X9_restore_0) 0) := zentry (tt_X9_restore d) fm_X9_restore_0 bf_X9_restore_0 1000 (by decide +kernel) rfl ⟨Nat.zero_lt_succ _, trivial⟩ (fun f hf => match f, hf with
  | 0, _ => fun vs hv => (zbox_t r_X9_restore_0_0) vs hv
  | 1, _ => fun vs hv => (zbox_t r_X9_restore_0_1) vs hv
  | f + 2, h => absurd (show f + 2 < 2 from h) (Nat.not_lt.mpr (Nat.le_add_left 2 f)))
noncomputable def gs_X9_restore_0 : zMt := zgq false [] 3 [.inr (.ref 292), .inl 2147483648] q_X9_restore_0 al_X9_restore_0
set_option maxRecDepth 100000 in
theorem cs_X9_restore_0 (d : Nat) : zC l G gh (d + 2) n_X9_restore gs_X9_restore_0 := zgq_ok0 (pcs := p_X9_restore) (by decide) rfl rfl (fun a ha => by simp only [al_X9_restore_0, List.mem_cons, List.not_mem_nil, or_false] at ha; rcases ha with rfl <;> decide +kernel) (fun gh => x_X9_restore_0 d) (by decide +kernel)
def q_X9_restore_1 : List (Nat × Nat) := [(292, zk102), (323, zk104), (334, zk13), (335, zk114)]
noncomputable def al_X9_restore_1 : zAq := [(some (.inl 9223372043297226753), [(292, zk109), (323, zk106), (334, zk13), (335, zk114)])]
def mq_X9_restore_1_1 : List (Nat × Nat) := [(292, zk102), (323, zk106), (334, zk13), (335, zk114)]
noncomputable def fm_X9_restore_1 : List zFm := [(0, [], (fun vs => [.inr (.ref 292), .inl 2147483649]), (fun vs => zP q_X9_restore_1), (fun vs => Nat.sub (Nat.add 98 0) 0)),
  (4, [(2, 2147483648, 2147483745)], (fun vs => [.inr (.ref 292), .inl 2147483649, .inl (zn 0 vs 0)]), (fun vs => zP mq_X9_restore_1_1), (fun vs => Nat.sub (Nat.add 2147483745 0) (Nat.add 0 (Nat.mul 1 (zn 0 vs 0)))))]
def bf_X9_restore_1 : List Nat := [0, 0, 0, 0, 2]
theorem r_X9_restore_1_0 : zbox [] (fun vs => zFrun (zpost (zAlq al_X9_restore_1)) 1000 t_X9_restore fm_X9_restore_1 bf_X9_restore_1 (0, vs)) = true := by decide +kernel
theorem r_X9_restore_1_1 : zbox [(2, 2147483648, 2147483745)] (fun vs => zFrun (zpost (zAlq al_X9_restore_1)) 1000 t_X9_restore fm_X9_restore_1 bf_X9_restore_1 (1, vs)) = true := by decide +kernel
set_option maxRecDepth 100000 in
theorem x_X9_restore_1 (d : Nat) : zS l G gh (d + 2) (zpost (zAlq al_X9_restore_1)) n_X9_restore (zn 0 p_X9_restore 0) (zwc (0, [.inr (.ref 292), .inl 2147483649], zP q_X9_restore_1) 0) := zentry (tt_X9_restore d) fm_X9_restore_1 bf_X9_restore_1 1000 (by decide +kernel) rfl ⟨Nat.zero_lt_succ _, trivial⟩ (fun f hf => match f, hf with
  | 0, _ => fun vs hv => (zbox_t r_X9_restore_1_0) vs hv
  | 1, _ => fun vs hv => (zbox_t r_X9_restore_1_1) vs hv
  | f + 2, h => absurd (show f + 2 < 2 from h) (Nat.not_lt.mpr (Nat.le_add_left 2 f)))
noncomputable def gs_X9_restore_1 : zMt := zgq false [] 3 [.inr (.ref 292), .inl 2147483649] q_X9_restore_1 al_X9_restore_1
set_option maxRecDepth 100000 in
theorem cs_X9_restore_1 (d : Nat) : zC l G gh (d + 2) n_X9_restore gs_X9_restore_1 := zgq_ok0 (pcs := p_X9_restore) (by decide) rfl rfl (fun a ha => by simp only [al_X9_restore_1, List.mem_cons, List.not_mem_nil, or_false] at ha; rcases ha with rfl <;> decide +kernel) (fun gh => x_X9_restore_1 d) (by decide +kernel)
def q_X9_restore_2 : List (Nat × Nat) := [(292, zk102), (323, zk104), (334, zk13), (335, zk114)]
noncomputable def al_X9_restore_2 : zAq := [(some (.inl 9223372043297226753), [(292, zk109), (323, zk106), (334, zk13), (335, zk114)])]
def mq_X9_restore_2_1 : List (Nat × Nat) := [(292, zk102), (323, zk106), (334, zk13), (335, zk114)]
noncomputable def fm_X9_restore_2 : List zFm := [(0, [], (fun vs => [.inr (.ref 292), .inl 2147483650]), (fun vs => zP q_X9_restore_2), (fun vs => Nat.sub (Nat.add 98 0) 0)),
  (4, [(2, 2147483648, 2147483745)], (fun vs => [.inr (.ref 292), .inl 2147483650, .inl (zn 0 vs 0)]), (fun vs => zP mq_X9_restore_2_1), (fun vs => Nat.sub (Nat.add 2147483745 0) (Nat.add 0 (Nat.mul 1 (zn 0 vs 0)))))]
def bf_X9_restore_2 : List Nat := [0, 0, 0, 0, 2]
theorem r_X9_restore_2_0 : zbox [] (fun vs => zFrun (zpost (zAlq al_X9_restore_2)) 1000 t_X9_restore fm_X9_restore_2 bf_X9_restore_2 (0, vs)) = true := by decide +kernel
theorem r_X9_restore_2_1 : zbox [(2, 2147483648, 2147483745)] (fun vs => zFrun (zpost (zAlq al_X9_restore_2)) 1000 t_X9_restore fm_X9_restore_2 bf_X9_restore_2 (1, vs)) = true := by decide +kernel
set_option maxRecDepth 100000 in
theorem x_X9_restore_2 (d : Nat) : zS l G gh (d + 2) (zpost (zAlq al_X9_restore_2)) n_X9_restore (zn 0 p_X9_restore 0) (zwc (0, [.inr (.ref 292), .inl 2147483650], zP q_X9_restore_2) 0) := zentry (tt_X9_restore d) fm_X9_restore_2 bf_X9_restore_2 1000 (by decide +kernel) rfl ⟨Nat.zero_lt_succ _, trivial⟩ (fun f hf => match f, hf with
  | 0, _ => fun vs hv => (zbox_t r_X9_restore_2_0) vs hv
  | 1, _ => fun vs hv => (zbox_t r_X9_restore_2_1) vs hv
  | f + 2, h => absurd (show f + 2 < 2 from h) (Nat.not_lt.mpr (Nat.le_add_left 2 f)))
noncomputable def gs_X9_restore_2 : zMt := zgq false [] 3 [.inr (.ref 292), .inl 2147483650] q_X9_restore_2 al_X9_restore_2
set_option maxRecDepth 100000 in
theorem cs_X9_restore_2 (d : Nat) : zC l G gh (d + 2) n_X9_restore gs_X9_restore_2 := zgq_ok0 (pcs := p_X9_restore) (by decide) rfl rfl (fun a ha => by simp only [al_X9_restore_2, List.mem_cons, List.not_mem_nil, or_false] at ha; rcases ha with rfl <;> decide +kernel) (fun gh => x_X9_restore_2 d) (by decide +kernel)
def q_X9_restore_3 : List (Nat × Nat) := []
noncomputable def al_X9_restore_3 : zAq := [(some (.inl 2147483648), [])]
noncomputable def fm_X9_restore_3 : List zFm := [(0, [], (fun vs => [.inr (.ref 292), .inl 6442450943]), (fun vs => zP q_X9_restore_3), (fun vs => Nat.sub (Nat.add 0 0) 0))]
def bf_X9_restore_3 : List Nat := []
theorem r_X9_restore_3_0 : zbox [] (fun vs => zFrun (zpost (zAlq al_X9_restore_3)) 1000 t_X9_restore fm_X9_restore_3 bf_X9_restore_3 (0, vs)) = true := by decide +kernel
set_option maxRecDepth 100000 in
theorem x_X9_restore_3 (d : Nat) : zS l G gh (d + 2) (zpost (zAlq al_X9_restore_3)) n_X9_restore (zn 0 p_X9_restore 0) (zwc (0, [.inr (.ref 292), .inl 6442450943], zP q_X9_restore_3) 0) := zentry (tt_X9_restore d) fm_X9_restore_3 bf_X9_restore_3 1000 (by decide +kernel) rfl ⟨Nat.zero_lt_succ _, trivial⟩ (fun f hf => match f, hf with
  | 0, _ => fun vs hv => (zbox_t r_X9_restore_3_0) vs hv
  | f + 1, h => absurd (show f + 1 < 1 from h) (Nat.not_lt.mpr (Nat.le_add_left 1 f)))
noncomputable def gs_X9_restore_3 : zMt := zgq false [] 3 [.inr (.ref 292), .inl 6442450943] q_X9_restore_3 al_X9_restore_3
set_option maxRecDepth 100000 in
theorem cs_X9_restore_3 (d : Nat) : zC l G gh (d + 2) n_X9_restore gs_X9_restore_3 := zgq_ok0 (pcs := p_X9_restore) (by decide) rfl rfl (fun a ha => by simp only [al_X9_restore_3, List.mem_cons, List.not_mem_nil, or_false] at ha; rcases ha with rfl <;> decide +kernel) (fun gh => x_X9_restore_3 d) (by decide +kernel)
def q_X9_restore_4 : List (Nat × Nat) := []
noncomputable def al_X9_restore_4 : zAq := [(some (.inl 2147483648), [])]
noncomputable def fm_X9_restore_4 : List zFm := [(0, [], (fun vs => [.inr (.ref 292), .inl 9223372058329612287]), (fun vs => zP q_X9_restore_4), (fun vs => Nat.sub (Nat.add 0 0) 0))]
def bf_X9_restore_4 : List Nat := []
theorem r_X9_restore_4_0 : zbox [] (fun vs => zFrun (zpost (zAlq al_X9_restore_4)) 1000 t_X9_restore fm_X9_restore_4 bf_X9_restore_4 (0, vs)) = true := by decide +kernel
set_option maxRecDepth 100000 in
theorem x_X9_restore_4 (d : Nat) : zS l G gh (d + 2) (zpost (zAlq al_X9_restore_4)) n_X9_restore (zn 0 p_X9_restore 0) (zwc (0, [.inr (.ref 292), .inl 9223372058329612287], zP q_X9_restore_4) 0) := zentry (tt_X9_restore d) fm_X9_restore_4 bf_X9_restore_4 1000 (by decide +kernel) rfl ⟨Nat.zero_lt_succ _, trivial⟩ (fun f hf => match f, hf with
  | 0, _ => fun vs hv => (zbox_t r_X9_restore_4_0) vs hv
  | f + 1, h => absurd (show f + 1 < 1 from h) (Nat.not_lt.mpr (Nat.le_add_left 1 f)))
noncomputable def gs_X9_restore_4 : zMt := zgq false [] 3 [.inr (.ref 292), .inl 9223372058329612287] q_X9_restore_4 al_X9_restore_4
set_option maxRecDepth 100000 in
theorem cs_X9_restore_4 (d : Nat) : zC l G gh (d + 2) n_X9_restore gs_X9_restore_4 := zgq_ok0 (pcs := p_X9_restore) (by decide) rfl rfl (fun a ha => by simp only [al_X9_restore_4, List.mem_cons, List.not_mem_nil, or_false] at ha; rcases ha with rfl <;> decide +kernel) (fun gh => x_X9_restore_4 d) (by decide +kernel)
noncomputable def gs_X9_restore : zMt := (zor gs_X9_restore_0 (zor gs_X9_restore_1 (zor gs_X9_restore_2 (zor gs_X9_restore_3 gs_X9_restore_4))))
theorem cs_X9_restore (d : Nat) : zC l G gh (d + 2) n_X9_restore gs_X9_restore := (zor_ok (cs_X9_restore_0 d) (zor_ok (cs_X9_restore_1 d) (zor_ok (cs_X9_restore_2 d) (zor_ok (cs_X9_restore_3 d) (cs_X9_restore_4 d)))))
def n_X9_heatAt : qMn := (yX9_heatAt, cX9_heatAt, 2, (some Jvm.ClassFile.FieldType.int), 0, 0)
theorem to_X9_heatAt : qTo n_X9_heatAt 1 := ⟨g1464, g110, ⟨by decide, by decide, by decide +kernel⟩, by decide⟩
def p_X9_heatAt : List Nat := [0]
noncomputable def b_X9_heatAt_0 : zBl := fun jp K => oAld 0 <| oIld 1 <| oCv 9 1 gs_X9_looks <| oAld 0 <| oInt 2147483648 <| oAld 0 <| oGetR 9 45 <| oInt 2147483648 <| oXald 10 <| oCv 9 2 gs_X9_lawTells <| oInt 2147483648 <| oInt 2147483747 <| oCs 3 f_X9_held <| oIret K
theorem s_X9_heatAt_0 (d : Nat) (hG : zGood gh) : zPb l G gh (d + 3) n_X9_heatAt p_X9_heatAt 0 b_X9_heatAt_0 := fun K jp hj =>
    z_aload_n (n := 0) (i := 0) (zd (i := .aload_n 0) (n := 1) (by decide +kernel)) rfl <|
    z_iload_n (n := 1) (i := 1) (zd (i := .iload_n 1) (n := 1) (by decide +kernel)) rfl <|
    z_callV (idx := 318) (ci := 9) (N := n_X9_looks) (zd (i := .invokevirtual 318) (n := 3) (by decide +kernel)) to_X9_looks g1465 g1467 g72 (by decide +kernel) rfl rfl rfl (cs_X9_looks (l := l) (G := G) (gh := gh) (d + 1)) <|
    z_aload_n (n := 0) (i := 0) (zd (i := .aload_n 0) (n := 1) (by decide +kernel)) rfl <|
    z_iconst (n := 0) (zd (i := .iconst (0)) (n := 1) (by decide +kernel)) (by decide +kernel) <|
    z_aload_n (n := 0) (i := 0) (zd (i := .aload_n 0) (n := 1) (by decide +kernel)) rfl <|
    z_getR (ci := 9) (j := 45) (idx := 104) (zd (i := .getfield 104) (n := 3) (by decide +kernel)) (by decide +kernel) (by decide +kernel) rfl g1173 <|
    z_iconst (n := 0) (zd (i := .iconst (0)) (n := 1) (by decide +kernel)) (by decide +kernel) <|
    z_iald (zd (i := .iaload) (n := 1) (by decide +kernel)) <|
    z_callV (idx := 321) (ci := 9) (N := n_X9_lawTells) (zd (i := .invokevirtual 321) (n := 3) (by decide +kernel)) to_X9_lawTells g1469 g1471 g73 (by decide +kernel) rfl rfl rfl (cs_X9_lawTells (l := l) (G := G) (gh := gh) (d) hG) <|
    z_iconst (n := 0) (zd (i := .iconst (0)) (n := 1) (by decide +kernel)) (by decide +kernel) <|
    z_bipush (n := 99) (zd (i := .bipush (99)) (n := 2) (by decide +kernel)) (by decide +kernel) <|
    z_callS (idx := 324) (N := n_X9_held) (zd (i := .invokestatic 324) (n := 3) (by decide +kernel)) to_X9_held g1477 g1478 rfl rfl (c_X9_held (l := l) (G := G) (gh := gh) (d + 1)) <|
    z_iret (zd (i := .ireturn) (n := 1) (by decide +kernel)) rfl
noncomputable def t_X9_heatAt : List zBl := [b_X9_heatAt_0]
theorem tt_X9_heatAt (d : Nat) (hG : zGood gh) : zT (zPb l G gh (d + 3) n_X9_heatAt p_X9_heatAt) t_X9_heatAt p_X9_heatAt := ⟨s_X9_heatAt_0 d hG, trivial⟩
def q_X9_heatAt_0 : List (Nat × Nat) := [(292, zk102), (321, zk3), (322, zk116)]
noncomputable def al_X9_heatAt_0 : zAq := [(some (.inl 9223372043297226851), [(292, zk105), (321, zk4), (322, zk117)])]
noncomputable def fm_X9_heatAt_0 : List zFm := [(0, [], (fun vs => [.inr (.ref 292), .inl 8589934591]), (fun vs => zP q_X9_heatAt_0), (fun vs => Nat.sub (Nat.add 0 0) 0))]
def bf_X9_heatAt_0 : List Nat := []
theorem r_X9_heatAt_0_0 : zbox [] (fun vs => zFrun (zpost (zAlq al_X9_heatAt_0)) 1000 t_X9_heatAt fm_X9_heatAt_0 bf_X9_heatAt_0 (0, vs)) = true := by decide +kernel
set_option maxRecDepth 100000 in
theorem x_X9_heatAt_0 (d : Nat) (hG : zGood gh) : zS l G gh (d + 3) (zpost (zAlq al_X9_heatAt_0)) n_X9_heatAt (zn 0 p_X9_heatAt 0) (zwc (0, [.inr (.ref 292), .inl 8589934591], zP q_X9_heatAt_0) 0) := zentry (tt_X9_heatAt d hG) fm_X9_heatAt_0 bf_X9_heatAt_0 1000 (by decide +kernel) rfl ⟨Nat.zero_lt_succ _, trivial⟩ (fun f hf => match f, hf with
  | 0, _ => fun vs hv => (zbox_t r_X9_heatAt_0_0) vs hv
  | f + 1, h => absurd (show f + 1 < 1 from h) (Nat.not_lt.mpr (Nat.le_add_left 1 f)))
noncomputable def gs_X9_heatAt_0 : zMt := zgq true zUN 2 [.inr (.ref 292), .inl 8589934591] q_X9_heatAt_0 al_X9_heatAt_0
set_option maxRecDepth 100000 in
theorem cs_X9_heatAt_0 (d : Nat) (hG : zGood gh) : zC l G gh (d + 3) n_X9_heatAt gs_X9_heatAt_0 := zgq_ok zGood_ok (pcs := p_X9_heatAt) (by decide) rfl rfl (fun a ha => by simp only [al_X9_heatAt_0, List.mem_cons, List.not_mem_nil, or_false] at ha; rcases ha with rfl <;> decide +kernel) (fun gh hG => x_X9_heatAt_0 d hG) (by decide +kernel) hG
noncomputable def gs_X9_heatAt : zMt := gs_X9_heatAt_0
theorem cs_X9_heatAt (d : Nat) (hG : zGood gh) : zC l G gh (d + 3) n_X9_heatAt gs_X9_heatAt := (cs_X9_heatAt_0 d hG)
def n_X9_loan : qMn := (yX9_loan, cX9_loan, 4, (some Jvm.ClassFile.FieldType.int), 0, 0)
theorem to_X9_loan : qTo n_X9_loan 3 := ⟨g1502, g110, ⟨by decide, by decide, by decide +kernel⟩, by decide⟩
def p_X9_loan : List Nat := [0, 8, 16, 25, 27, 44, 47]
noncomputable def b_X9_loan_0 : zBl := fun jp K => oAld 0 <| oIld 1 <| oCv 9 1 f_X9_isSeat <| oIf zeq zne (jp 3) (jp 1)
theorem s_X9_loan_0 (d : Nat) : zPb l G gh (d + 3) n_X9_loan p_X9_loan 0 b_X9_loan_0 := fun K jp hj =>
    z_aload_n (n := 0) (i := 0) (zd (i := .aload_n 0) (n := 1) (by decide +kernel)) rfl <|
    z_iload_n (n := 1) (i := 1) (zd (i := .iload_n 1) (n := 1) (by decide +kernel)) rfl <|
    z_callV (idx := 378) (ci := 9) (N := n_X9_isSeat) (zd (i := .invokevirtual 378) (n := 3) (by decide +kernel)) to_X9_isSeat g1487 g1489 g75 (by decide +kernel) rfl rfl rfl (c_X9_isSeat (l := l) (G := G) (gh := gh) (d)) <|
    z_if_eq (off := 20) (tgt := 25) (zd (i := .ifCond .eq (20)) (n := 3) (by decide +kernel)) (by decide +kernel) (zj (hj 3) (by decide +kernel)) (zj (hj 1) (by decide +kernel))
noncomputable def b_X9_loan_1 : zBl := fun jp K => oAld 0 <| oIld 2 <| oCv 9 1 f_X9_isThing <| oIf zeq zne (jp 3) (jp 2)
theorem s_X9_loan_1 (d : Nat) : zPb l G gh (d + 3) n_X9_loan p_X9_loan 8 b_X9_loan_1 := fun K jp hj =>
    z_aload_n (n := 0) (i := 0) (zd (i := .aload_n 0) (n := 1) (by decide +kernel)) rfl <|
    z_iload_n (n := 2) (i := 2) (zd (i := .iload_n 2) (n := 1) (by decide +kernel)) rfl <|
    z_callV (idx := 372) (ci := 9) (N := n_X9_isThing) (zd (i := .invokevirtual 372) (n := 3) (by decide +kernel)) to_X9_isThing g1438 g1440 g66 (by decide +kernel) rfl rfl rfl (c_X9_isThing (l := l) (G := G) (gh := gh) (d)) <|
    z_if_eq (off := 12) (tgt := 25) (zd (i := .ifCond .eq (12)) (n := 3) (by decide +kernel)) (by decide +kernel) (zj (hj 3) (by decide +kernel)) (zj (hj 2) (by decide +kernel))
noncomputable def b_X9_loan_2 : zBl := fun jp K => oIld 3 <| oInt 2147483648 <| oInt 2147483649 <| oCs 3 f_X9_in <| oIf zne zeq (jp 4) (jp 3)
theorem s_X9_loan_2 (d : Nat) : zPb l G gh (d + 3) n_X9_loan p_X9_loan 16 b_X9_loan_2 := fun K jp hj =>
    z_iload_n (n := 3) (i := 3) (zd (i := .iload_n 3) (n := 1) (by decide +kernel)) rfl <|
    z_iconst (n := 0) (zd (i := .iconst (0)) (n := 1) (by decide +kernel)) (by decide +kernel) <|
    z_iconst (n := 1) (zd (i := .iconst (1)) (n := 1) (by decide +kernel)) (by decide +kernel) <|
    z_callS (idx := 304) (N := n_X9_in) (zd (i := .invokestatic 304) (n := 3) (by decide +kernel)) to_X9_in g1442 g1443 rfl rfl (c_X9_in (l := l) (G := G) (gh := gh) (d + 1)) <|
    z_if_ne (off := 5) (tgt := 27) (zd (i := .ifCond .ne (5)) (n := 3) (by decide +kernel)) (by decide +kernel) (zj (hj 4) (by decide +kernel)) (zj (hj 3) (by decide +kernel))
noncomputable def b_X9_loan_3 : zBl := fun jp K => oInt 2147483647 <| oIret K
theorem s_X9_loan_3 (d : Nat) : zPb l G gh (d + 3) n_X9_loan p_X9_loan 25 b_X9_loan_3 := fun K jp hj =>
    z_iconst (n := -1) (zd (i := .iconst (-1)) (n := 1) (by decide +kernel)) (by decide +kernel) <|
    z_iret (zd (i := .ireturn) (n := 1) (by decide +kernel)) rfl
noncomputable def b_X9_loan_4 : zBl := fun jp K => oAld 0 <| oGetR 9 48 <| oInt 2147483672 <| oInt 2147483654 <| oIld 1 <| oB2 zimul <| oB2 zadd <| oIld 2 <| oB2 zadd <| oXald 10 <| oIf zne zeq (jp 6) (jp 5)
theorem s_X9_loan_4 (d : Nat) : zPb l G gh (d + 3) n_X9_loan p_X9_loan 27 b_X9_loan_4 := fun K jp hj =>
    z_aload_n (n := 0) (i := 0) (zd (i := .aload_n 0) (n := 1) (by decide +kernel)) rfl <|
    z_getR (ci := 9) (j := 48) (idx := 110) (zd (i := .getfield 110) (n := 3) (by decide +kernel)) (by decide +kernel) (by decide +kernel) rfl g1176 <|
    z_bipush (n := 24) (zd (i := .bipush (24)) (n := 2) (by decide +kernel)) (by decide +kernel) <|
    z_bipush (n := 6) (zd (i := .bipush (6)) (n := 2) (by decide +kernel)) (by decide +kernel) <|
    z_iload_n (n := 1) (i := 1) (zd (i := .iload_n 1) (n := 1) (by decide +kernel)) rfl <|
    z_imul (zd (i := .imul) (n := 1) (by decide +kernel)) <|
    z_iadd (zd (i := .iadd) (n := 1) (by decide +kernel)) <|
    z_iload_n (n := 2) (i := 2) (zd (i := .iload_n 2) (n := 1) (by decide +kernel)) rfl <|
    z_iadd (zd (i := .iadd) (n := 1) (by decide +kernel)) <|
    z_iald (zd (i := .iaload) (n := 1) (by decide +kernel)) <|
    z_if_ne (off := 6) (tgt := 47) (zd (i := .ifCond .ne (6)) (n := 3) (by decide +kernel)) (by decide +kernel) (zj (hj 6) (by decide +kernel)) (zj (hj 5) (by decide +kernel))
noncomputable def b_X9_loan_5 : zBl := fun jp K => oInt 2147483646 <| oIret K
theorem s_X9_loan_5 (d : Nat) : zPb l G gh (d + 3) n_X9_loan p_X9_loan 44 b_X9_loan_5 := fun K jp hj =>
    z_bipush (n := -2) (zd (i := .bipush (-2)) (n := 2) (by decide +kernel)) (by decide +kernel) <|
    z_iret (zd (i := .ireturn) (n := 1) (by decide +kernel)) rfl
noncomputable def b_X9_loan_6 : zBl := fun jp K => oAld 0 <| oGetR 9 48 <| oInt 2147483672 <| oInt 2147483684 <| oIld 3 <| oB2 zimul <| oB2 zadd <| oInt 2147483654 <| oIld 1 <| oB2 zimul <| oB2 zadd <| oIld 2 <| oB2 zadd <| oXald 10 <| oIret K
theorem s_X9_loan_6 (d : Nat) : zPb l G gh (d + 3) n_X9_loan p_X9_loan 47 b_X9_loan_6 := fun K jp hj =>
    z_aload_n (n := 0) (i := 0) (zd (i := .aload_n 0) (n := 1) (by decide +kernel)) rfl <|
    z_getR (ci := 9) (j := 48) (idx := 110) (zd (i := .getfield 110) (n := 3) (by decide +kernel)) (by decide +kernel) (by decide +kernel) rfl g1176 <|
    z_bipush (n := 24) (zd (i := .bipush (24)) (n := 2) (by decide +kernel)) (by decide +kernel) <|
    z_bipush (n := 36) (zd (i := .bipush (36)) (n := 2) (by decide +kernel)) (by decide +kernel) <|
    z_iload_n (n := 3) (i := 3) (zd (i := .iload_n 3) (n := 1) (by decide +kernel)) rfl <|
    z_imul (zd (i := .imul) (n := 1) (by decide +kernel)) <|
    z_iadd (zd (i := .iadd) (n := 1) (by decide +kernel)) <|
    z_bipush (n := 6) (zd (i := .bipush (6)) (n := 2) (by decide +kernel)) (by decide +kernel) <|
    z_iload_n (n := 1) (i := 1) (zd (i := .iload_n 1) (n := 1) (by decide +kernel)) rfl <|
    z_imul (zd (i := .imul) (n := 1) (by decide +kernel)) <|
    z_iadd (zd (i := .iadd) (n := 1) (by decide +kernel)) <|
    z_iload_n (n := 2) (i := 2) (zd (i := .iload_n 2) (n := 1) (by decide +kernel)) rfl <|
    z_iadd (zd (i := .iadd) (n := 1) (by decide +kernel)) <|
    z_iald (zd (i := .iaload) (n := 1) (by decide +kernel)) <|
    z_iret (zd (i := .ireturn) (n := 1) (by decide +kernel)) rfl
noncomputable def t_X9_loan : List zBl := [b_X9_loan_0, b_X9_loan_1, b_X9_loan_2, b_X9_loan_3, b_X9_loan_4, b_X9_loan_5, b_X9_loan_6]
theorem tt_X9_loan (d : Nat) : zT (zPb l G gh (d + 3) n_X9_loan p_X9_loan) t_X9_loan p_X9_loan := ⟨s_X9_loan_0 d, s_X9_loan_1 d, s_X9_loan_2 d, s_X9_loan_3 d, s_X9_loan_4 d, s_X9_loan_5 d, s_X9_loan_6 d, trivial⟩
def q_X9_loan_0 : List (Nat × Nat) := [(292, zk102), (301, zk107), (304, zk107), (323, zk104)]
noncomputable def al_X9_loan_0 : zAq := [(some (.inl 8589934591), [(292, zk102), (301, zk107), (304, zk107), (323, zk104)])]
noncomputable def fm_X9_loan_0 : List zFm := [(0, [], (fun vs => [.inr (.ref 292), .inl 9223372043297226757, .inl 9223372043297226757, .inl 2147483648]), (fun vs => zP q_X9_loan_0), (fun vs => Nat.sub (Nat.add 0 0) 0))]
def bf_X9_loan_0 : List Nat := []
theorem r_X9_loan_0_0 : zbox [] (fun vs => zFrun (zpost (zAlq al_X9_loan_0)) 1000 t_X9_loan fm_X9_loan_0 bf_X9_loan_0 (0, vs)) = true := by decide +kernel
set_option maxRecDepth 100000 in
theorem x_X9_loan_0 (d : Nat) : zS l G gh (d + 3) (zpost (zAlq al_X9_loan_0)) n_X9_loan (zn 0 p_X9_loan 0) (zwc (0, [.inr (.ref 292), .inl 9223372043297226757, .inl 9223372043297226757, .inl 2147483648], zP q_X9_loan_0) 0) := zentry (tt_X9_loan d) fm_X9_loan_0 bf_X9_loan_0 1000 (by decide +kernel) rfl ⟨Nat.zero_lt_succ _, trivial⟩ (fun f hf => match f, hf with
  | 0, _ => fun vs hv => (zbox_t r_X9_loan_0_0) vs hv
  | f + 1, h => absurd (show f + 1 < 1 from h) (Nat.not_lt.mpr (Nat.le_add_left 1 f)))
noncomputable def gs_X9_loan_0 : zMt := zgq false [] 4 [.inr (.ref 292), .inl 9223372043297226757, .inl 9223372043297226757, .inl 2147483648] q_X9_loan_0 al_X9_loan_0
set_option maxRecDepth 100000 in
theorem cs_X9_loan_0 (d : Nat) : zC l G gh (d + 3) n_X9_loan gs_X9_loan_0 := zgq_ok0 (pcs := p_X9_loan) (by decide) rfl rfl (fun a ha => by simp only [al_X9_loan_0, List.mem_cons, List.not_mem_nil, or_false] at ha; rcases ha with rfl <;> decide +kernel) (fun gh => x_X9_loan_0 d) (by decide +kernel)
def q_X9_loan_1 : List (Nat × Nat) := [(292, zk102), (301, zk107), (304, zk107), (323, zk104)]
noncomputable def al_X9_loan_1 : zAq := [(some (.inl 8589934591), [(292, zk102), (301, zk107), (304, zk107), (323, zk104)])]
noncomputable def fm_X9_loan_1 : List zFm := [(0, [], (fun vs => [.inr (.ref 292), .inl 9223372043297226757, .inl 9223372043297226757, .inl 2147483649]), (fun vs => zP q_X9_loan_1), (fun vs => Nat.sub (Nat.add 0 0) 0))]
def bf_X9_loan_1 : List Nat := []
theorem r_X9_loan_1_0 : zbox [] (fun vs => zFrun (zpost (zAlq al_X9_loan_1)) 1000 t_X9_loan fm_X9_loan_1 bf_X9_loan_1 (0, vs)) = true := by decide +kernel
set_option maxRecDepth 100000 in
theorem x_X9_loan_1 (d : Nat) : zS l G gh (d + 3) (zpost (zAlq al_X9_loan_1)) n_X9_loan (zn 0 p_X9_loan 0) (zwc (0, [.inr (.ref 292), .inl 9223372043297226757, .inl 9223372043297226757, .inl 2147483649], zP q_X9_loan_1) 0) := zentry (tt_X9_loan d) fm_X9_loan_1 bf_X9_loan_1 1000 (by decide +kernel) rfl ⟨Nat.zero_lt_succ _, trivial⟩ (fun f hf => match f, hf with
  | 0, _ => fun vs hv => (zbox_t r_X9_loan_1_0) vs hv
  | f + 1, h => absurd (show f + 1 < 1 from h) (Nat.not_lt.mpr (Nat.le_add_left 1 f)))
noncomputable def gs_X9_loan_1 : zMt := zgq false [] 4 [.inr (.ref 292), .inl 9223372043297226757, .inl 9223372043297226757, .inl 2147483649] q_X9_loan_1 al_X9_loan_1
set_option maxRecDepth 100000 in
theorem cs_X9_loan_1 (d : Nat) : zC l G gh (d + 3) n_X9_loan gs_X9_loan_1 := zgq_ok0 (pcs := p_X9_loan) (by decide) rfl rfl (fun a ha => by simp only [al_X9_loan_1, List.mem_cons, List.not_mem_nil, or_false] at ha; rcases ha with rfl <;> decide +kernel) (fun gh => x_X9_loan_1 d) (by decide +kernel)
def q_X9_loan_2 : List (Nat × Nat) := [(292, zk102), (301, zk107), (304, zk107)]
noncomputable def al_X9_loan_2 : zAq := [(some (.inl 2147483647), [(292, zk102), (301, zk107), (304, zk107)])]
noncomputable def fm_X9_loan_2 : List zFm := [(0, [], (fun vs => [.inr (.ref 292), .inl 9223372043297226757, .inl 9223372043297226757, .inl 6442450943]), (fun vs => zP q_X9_loan_2), (fun vs => Nat.sub (Nat.add 0 0) 0))]
def bf_X9_loan_2 : List Nat := []
theorem r_X9_loan_2_0 : zbox [] (fun vs => zFrun (zpost (zAlq al_X9_loan_2)) 1000 t_X9_loan fm_X9_loan_2 bf_X9_loan_2 (0, vs)) = true := by decide +kernel
set_option maxRecDepth 100000 in
theorem x_X9_loan_2 (d : Nat) : zS l G gh (d + 3) (zpost (zAlq al_X9_loan_2)) n_X9_loan (zn 0 p_X9_loan 0) (zwc (0, [.inr (.ref 292), .inl 9223372043297226757, .inl 9223372043297226757, .inl 6442450943], zP q_X9_loan_2) 0) := zentry (tt_X9_loan d) fm_X9_loan_2 bf_X9_loan_2 1000 (by decide +kernel) rfl ⟨Nat.zero_lt_succ _, trivial⟩ (fun f hf => match f, hf with
  | 0, _ => fun vs hv => (zbox_t r_X9_loan_2_0) vs hv
  | f + 1, h => absurd (show f + 1 < 1 from h) (Nat.not_lt.mpr (Nat.le_add_left 1 f)))
noncomputable def gs_X9_loan_2 : zMt := zgq false [] 4 [.inr (.ref 292), .inl 9223372043297226757, .inl 9223372043297226757, .inl 6442450943] q_X9_loan_2 al_X9_loan_2
set_option maxRecDepth 100000 in
theorem cs_X9_loan_2 (d : Nat) : zC l G gh (d + 3) n_X9_loan gs_X9_loan_2 := zgq_ok0 (pcs := p_X9_loan) (by decide) rfl rfl (fun a ha => by simp only [al_X9_loan_2, List.mem_cons, List.not_mem_nil, or_false] at ha; rcases ha with rfl <;> decide +kernel) (fun gh => x_X9_loan_2 d) (by decide +kernel)
def q_X9_loan_3 : List (Nat × Nat) := [(292, zk102), (301, zk107), (304, zk107)]
noncomputable def al_X9_loan_3 : zAq := [(some (.inl 2147483647), [(292, zk102), (301, zk107), (304, zk107)])]
noncomputable def fm_X9_loan_3 : List zFm := [(0, [], (fun vs => [.inr (.ref 292), .inl 9223372043297226757, .inl 9223372043297226757, .inl 9223372054034644991]), (fun vs => zP q_X9_loan_3), (fun vs => Nat.sub (Nat.add 0 0) 0))]
def bf_X9_loan_3 : List Nat := []
theorem r_X9_loan_3_0 : zbox [] (fun vs => zFrun (zpost (zAlq al_X9_loan_3)) 1000 t_X9_loan fm_X9_loan_3 bf_X9_loan_3 (0, vs)) = true := by decide +kernel
set_option maxRecDepth 100000 in
theorem x_X9_loan_3 (d : Nat) : zS l G gh (d + 3) (zpost (zAlq al_X9_loan_3)) n_X9_loan (zn 0 p_X9_loan 0) (zwc (0, [.inr (.ref 292), .inl 9223372043297226757, .inl 9223372043297226757, .inl 9223372054034644991], zP q_X9_loan_3) 0) := zentry (tt_X9_loan d) fm_X9_loan_3 bf_X9_loan_3 1000 (by decide +kernel) rfl ⟨Nat.zero_lt_succ _, trivial⟩ (fun f hf => match f, hf with
  | 0, _ => fun vs hv => (zbox_t r_X9_loan_3_0) vs hv
  | f + 1, h => absurd (show f + 1 < 1 from h) (Nat.not_lt.mpr (Nat.le_add_left 1 f)))
noncomputable def gs_X9_loan_3 : zMt := zgq false [] 4 [.inr (.ref 292), .inl 9223372043297226757, .inl 9223372043297226757, .inl 9223372054034644991] q_X9_loan_3 al_X9_loan_3
set_option maxRecDepth 100000 in
theorem cs_X9_loan_3 (d : Nat) : zC l G gh (d + 3) n_X9_loan gs_X9_loan_3 := zgq_ok0 (pcs := p_X9_loan) (by decide) rfl rfl (fun a ha => by simp only [al_X9_loan_3, List.mem_cons, List.not_mem_nil, or_false] at ha; rcases ha with rfl <;> decide +kernel) (fun gh => x_X9_loan_3 d) (by decide +kernel)
def q_X9_loan_4 : List (Nat × Nat) := [(292, zk102), (301, zk107), (304, zk107)]
noncomputable def al_X9_loan_4 : zAq := [(some (.inl 2147483647), [(292, zk102), (301, zk107), (304, zk107)])]
noncomputable def fm_X9_loan_4 : List zFm := [(0, [], (fun vs => [.inr (.ref 292), .inl 9223372043297226757, .inl 6442450943, .inl 8589934591]), (fun vs => zP q_X9_loan_4), (fun vs => Nat.sub (Nat.add 0 0) 0))]
def bf_X9_loan_4 : List Nat := []
theorem r_X9_loan_4_0 : zbox [] (fun vs => zFrun (zpost (zAlq al_X9_loan_4)) 1000 t_X9_loan fm_X9_loan_4 bf_X9_loan_4 (0, vs)) = true := by decide +kernel
set_option maxRecDepth 100000 in
theorem x_X9_loan_4 (d : Nat) : zS l G gh (d + 3) (zpost (zAlq al_X9_loan_4)) n_X9_loan (zn 0 p_X9_loan 0) (zwc (0, [.inr (.ref 292), .inl 9223372043297226757, .inl 6442450943, .inl 8589934591], zP q_X9_loan_4) 0) := zentry (tt_X9_loan d) fm_X9_loan_4 bf_X9_loan_4 1000 (by decide +kernel) rfl ⟨Nat.zero_lt_succ _, trivial⟩ (fun f hf => match f, hf with
  | 0, _ => fun vs hv => (zbox_t r_X9_loan_4_0) vs hv
  | f + 1, h => absurd (show f + 1 < 1 from h) (Nat.not_lt.mpr (Nat.le_add_left 1 f)))
noncomputable def gs_X9_loan_4 : zMt := zgq false [] 4 [.inr (.ref 292), .inl 9223372043297226757, .inl 6442450943, .inl 8589934591] q_X9_loan_4 al_X9_loan_4
set_option maxRecDepth 100000 in
theorem cs_X9_loan_4 (d : Nat) : zC l G gh (d + 3) n_X9_loan gs_X9_loan_4 := zgq_ok0 (pcs := p_X9_loan) (by decide) rfl rfl (fun a ha => by simp only [al_X9_loan_4, List.mem_cons, List.not_mem_nil, or_false] at ha; rcases ha with rfl <;> decide +kernel) (fun gh => x_X9_loan_4 d) (by decide +kernel)
def q_X9_loan_5 : List (Nat × Nat) := [(292, zk102), (301, zk107), (304, zk107)]
noncomputable def al_X9_loan_5 : zAq := [(some (.inl 2147483647), [(292, zk102), (301, zk107), (304, zk107)])]
noncomputable def fm_X9_loan_5 : List zFm := [(0, [], (fun vs => [.inr (.ref 292), .inl 9223372043297226757, .inl 9223372071214514175, .inl 8589934591]), (fun vs => zP q_X9_loan_5), (fun vs => Nat.sub (Nat.add 0 0) 0))]
def bf_X9_loan_5 : List Nat := []
theorem r_X9_loan_5_0 : zbox [] (fun vs => zFrun (zpost (zAlq al_X9_loan_5)) 1000 t_X9_loan fm_X9_loan_5 bf_X9_loan_5 (0, vs)) = true := by decide +kernel
set_option maxRecDepth 100000 in
theorem x_X9_loan_5 (d : Nat) : zS l G gh (d + 3) (zpost (zAlq al_X9_loan_5)) n_X9_loan (zn 0 p_X9_loan 0) (zwc (0, [.inr (.ref 292), .inl 9223372043297226757, .inl 9223372071214514175, .inl 8589934591], zP q_X9_loan_5) 0) := zentry (tt_X9_loan d) fm_X9_loan_5 bf_X9_loan_5 1000 (by decide +kernel) rfl ⟨Nat.zero_lt_succ _, trivial⟩ (fun f hf => match f, hf with
  | 0, _ => fun vs hv => (zbox_t r_X9_loan_5_0) vs hv
  | f + 1, h => absurd (show f + 1 < 1 from h) (Nat.not_lt.mpr (Nat.le_add_left 1 f)))
noncomputable def gs_X9_loan_5 : zMt := zgq false [] 4 [.inr (.ref 292), .inl 9223372043297226757, .inl 9223372071214514175, .inl 8589934591] q_X9_loan_5 al_X9_loan_5
set_option maxRecDepth 100000 in
theorem cs_X9_loan_5 (d : Nat) : zC l G gh (d + 3) n_X9_loan gs_X9_loan_5 := zgq_ok0 (pcs := p_X9_loan) (by decide) rfl rfl (fun a ha => by simp only [al_X9_loan_5, List.mem_cons, List.not_mem_nil, or_false] at ha; rcases ha with rfl <;> decide +kernel) (fun gh => x_X9_loan_5 d) (by decide +kernel)
def q_X9_loan_6 : List (Nat × Nat) := [(292, zk102), (304, zk107)]
noncomputable def al_X9_loan_6 : zAq := [(some (.inl 2147483647), [(292, zk102), (304, zk107)])]
noncomputable def fm_X9_loan_6 : List zFm := [(0, [], (fun vs => [.inr (.ref 292), .inl 6442450943, .inl 8589934591, .inl 8589934591]), (fun vs => zP q_X9_loan_6), (fun vs => Nat.sub (Nat.add 0 0) 0))]
def bf_X9_loan_6 : List Nat := []
theorem r_X9_loan_6_0 : zbox [] (fun vs => zFrun (zpost (zAlq al_X9_loan_6)) 1000 t_X9_loan fm_X9_loan_6 bf_X9_loan_6 (0, vs)) = true := by decide +kernel
set_option maxRecDepth 100000 in
theorem x_X9_loan_6 (d : Nat) : zS l G gh (d + 3) (zpost (zAlq al_X9_loan_6)) n_X9_loan (zn 0 p_X9_loan 0) (zwc (0, [.inr (.ref 292), .inl 6442450943, .inl 8589934591, .inl 8589934591], zP q_X9_loan_6) 0) := zentry (tt_X9_loan d) fm_X9_loan_6 bf_X9_loan_6 1000 (by decide +kernel) rfl ⟨Nat.zero_lt_succ _, trivial⟩ (fun f hf => match f, hf with
  | 0, _ => fun vs hv => (zbox_t r_X9_loan_6_0) vs hv
  | f + 1, h => absurd (show f + 1 < 1 from h) (Nat.not_lt.mpr (Nat.le_add_left 1 f)))
noncomputable def gs_X9_loan_6 : zMt := zgq false [] 4 [.inr (.ref 292), .inl 6442450943, .inl 8589934591, .inl 8589934591] q_X9_loan_6 al_X9_loan_6
set_option maxRecDepth 100000 in
theorem cs_X9_loan_6 (d : Nat) : zC l G gh (d + 3) n_X9_loan gs_X9_loan_6 := zgq_ok0 (pcs := p_X9_loan) (by decide) rfl rfl (fun a ha => by simp only [al_X9_loan_6, List.mem_cons, List.not_mem_nil, or_false] at ha; rcases ha with rfl <;> decide +kernel) (fun gh => x_X9_loan_6 d) (by decide +kernel)
def q_X9_loan_7 : List (Nat × Nat) := [(292, zk102), (304, zk107)]
noncomputable def al_X9_loan_7 : zAq := [(some (.inl 2147483647), [(292, zk102), (304, zk107)])]
noncomputable def fm_X9_loan_7 : List zFm := [(0, [], (fun vs => [.inr (.ref 292), .inl 9223372071214514175, .inl 8589934591, .inl 8589934591]), (fun vs => zP q_X9_loan_7), (fun vs => Nat.sub (Nat.add 0 0) 0))]
def bf_X9_loan_7 : List Nat := []
theorem r_X9_loan_7_0 : zbox [] (fun vs => zFrun (zpost (zAlq al_X9_loan_7)) 1000 t_X9_loan fm_X9_loan_7 bf_X9_loan_7 (0, vs)) = true := by decide +kernel
set_option maxRecDepth 100000 in
theorem x_X9_loan_7 (d : Nat) : zS l G gh (d + 3) (zpost (zAlq al_X9_loan_7)) n_X9_loan (zn 0 p_X9_loan 0) (zwc (0, [.inr (.ref 292), .inl 9223372071214514175, .inl 8589934591, .inl 8589934591], zP q_X9_loan_7) 0) := zentry (tt_X9_loan d) fm_X9_loan_7 bf_X9_loan_7 1000 (by decide +kernel) rfl ⟨Nat.zero_lt_succ _, trivial⟩ (fun f hf => match f, hf with
  | 0, _ => fun vs hv => (zbox_t r_X9_loan_7_0) vs hv
  | f + 1, h => absurd (show f + 1 < 1 from h) (Nat.not_lt.mpr (Nat.le_add_left 1 f)))
noncomputable def gs_X9_loan_7 : zMt := zgq false [] 4 [.inr (.ref 292), .inl 9223372071214514175, .inl 8589934591, .inl 8589934591] q_X9_loan_7 al_X9_loan_7
set_option maxRecDepth 100000 in
theorem cs_X9_loan_7 (d : Nat) : zC l G gh (d + 3) n_X9_loan gs_X9_loan_7 := zgq_ok0 (pcs := p_X9_loan) (by decide) rfl rfl (fun a ha => by simp only [al_X9_loan_7, List.mem_cons, List.not_mem_nil, or_false] at ha; rcases ha with rfl <;> decide +kernel) (fun gh => x_X9_loan_7 d) (by decide +kernel)
noncomputable def gs_X9_loan : zMt := (zor gs_X9_loan_0 (zor gs_X9_loan_1 (zor gs_X9_loan_2 (zor gs_X9_loan_3 (zor gs_X9_loan_4 (zor gs_X9_loan_5 (zor gs_X9_loan_6 gs_X9_loan_7)))))))
theorem cs_X9_loan (d : Nat) : zC l G gh (d + 3) n_X9_loan gs_X9_loan := (zor_ok (cs_X9_loan_0 d) (zor_ok (cs_X9_loan_1 d) (zor_ok (cs_X9_loan_2 d) (zor_ok (cs_X9_loan_3 d) (zor_ok (cs_X9_loan_4 d) (zor_ok (cs_X9_loan_5 d) (zor_ok (cs_X9_loan_6 d) (cs_X9_loan_7 d))))))))
def n_X9_move : qMn := (yX9_move, cX9_move, 3, (some Jvm.ClassFile.FieldType.boolean), 0, 0)
theorem to_X9_move : qTo n_X9_move 2 := ⟨g1538, g110, ⟨by decide, by decide, by decide +kernel⟩, by decide⟩
def p_X9_move : List Nat := [0, 8, 15, 25, 27]
noncomputable def b_X9_move_0 : zBl := fun jp K => oAld 0 <| oIld 1 <| oCv 9 1 f_X9_isSeat <| oIf zeq zne (jp 3) (jp 1)
theorem s_X9_move_0 (d : Nat) : zPb l G gh (d + 3) n_X9_move p_X9_move 0 b_X9_move_0 := fun K jp hj =>
    z_aload_n (n := 0) (i := 0) (zd (i := .aload_n 0) (n := 1) (by decide +kernel)) rfl <|
    z_iload_n (n := 1) (i := 1) (zd (i := .iload_n 1) (n := 1) (by decide +kernel)) rfl <|
    z_callV (idx := 378) (ci := 9) (N := n_X9_isSeat) (zd (i := .invokevirtual 378) (n := 3) (by decide +kernel)) to_X9_isSeat g1487 g1489 g75 (by decide +kernel) rfl rfl rfl (c_X9_isSeat (l := l) (G := G) (gh := gh) (d)) <|
    z_if_eq (off := 20) (tgt := 25) (zd (i := .ifCond .eq (20)) (n := 3) (by decide +kernel)) (by decide +kernel) (zj (hj 3) (by decide +kernel)) (zj (hj 1) (by decide +kernel))
noncomputable def b_X9_move_1 : zBl := fun jp K => oIld 2 <| oCs 1 f_X9_isX <| oIf zeq zne (jp 3) (jp 2)
theorem s_X9_move_1 (d : Nat) : zPb l G gh (d + 3) n_X9_move p_X9_move 8 b_X9_move_1 := fun K jp hj =>
    z_iload_n (n := 2) (i := 2) (zd (i := .iload_n 2) (n := 1) (by decide +kernel)) rfl <|
    z_callS (idx := 387) (N := n_X9_isX) (zd (i := .invokestatic 387) (n := 3) (by decide +kernel)) to_X9_isX g1507 g1508 rfl rfl (c_X9_isX (l := l) (G := G) (gh := gh) (d)) <|
    z_if_eq (off := 13) (tgt := 25) (zd (i := .ifCond .eq (13)) (n := 3) (by decide +kernel)) (by decide +kernel) (zj (hj 3) (by decide +kernel)) (zj (hj 2) (by decide +kernel))
noncomputable def b_X9_move_2 : zBl := fun jp K => oAld 0 <| oGetR 9 48 <| oIld 1 <| oXald 10 <| oIld 2 <| oIc zne zeq (jp 4) (jp 3)
theorem s_X9_move_2 (d : Nat) : zPb l G gh (d + 3) n_X9_move p_X9_move 15 b_X9_move_2 := fun K jp hj =>
    z_aload_n (n := 0) (i := 0) (zd (i := .aload_n 0) (n := 1) (by decide +kernel)) rfl <|
    z_getR (ci := 9) (j := 48) (idx := 110) (zd (i := .getfield 110) (n := 3) (by decide +kernel)) (by decide +kernel) (by decide +kernel) rfl g1176 <|
    z_iload_n (n := 1) (i := 1) (zd (i := .iload_n 1) (n := 1) (by decide +kernel)) rfl <|
    z_iald (zd (i := .iaload) (n := 1) (by decide +kernel)) <|
    z_iload_n (n := 2) (i := 2) (zd (i := .iload_n 2) (n := 1) (by decide +kernel)) rfl <|
    z_icmp_ne (off := 5) (tgt := 27) (zd (i := .if_icmp .ne (5)) (n := 3) (by decide +kernel)) (by decide +kernel) (zj (hj 4) (by decide +kernel)) (zj (hj 3) (by decide +kernel))
noncomputable def b_X9_move_3 : zBl := fun jp K => oInt 2147483648 <| oZret K
theorem s_X9_move_3 (d : Nat) : zPb l G gh (d + 3) n_X9_move p_X9_move 25 b_X9_move_3 := fun K jp hj =>
    z_iconst (n := 0) (zd (i := .iconst (0)) (n := 1) (by decide +kernel)) (by decide +kernel) <|
    z_zret (zd (i := .ireturn) (n := 1) (by decide +kernel)) rfl
noncomputable def b_X9_move_4 : zBl := fun jp K => oAld 0 <| oCv 9 0 gs_X9_copies <| oAld 0 <| oGetR 9 49 <| oIld 1 <| oIld 2 <| oXast 10 zid <| oAld 0 <| oCv 9 0 gs_X9_records <| oInt 2147483649 <| oZret K
theorem s_X9_move_4 (d : Nat) : zPb l G gh (d + 3) n_X9_move p_X9_move 27 b_X9_move_4 := fun K jp hj =>
    z_aload_n (n := 0) (i := 0) (zd (i := .aload_n 0) (n := 1) (by decide +kernel)) rfl <|
    z_callV (idx := 375) (ci := 9) (N := n_X9_copies) (zd (i := .invokevirtual 375) (n := 3) (by decide +kernel)) to_X9_copies g1445 g1447 g67 (by decide +kernel) rfl rfl rfl (cs_X9_copies (l := l) (G := G) (gh := gh) (d + 1)) <|
    z_aload_n (n := 0) (i := 0) (zd (i := .aload_n 0) (n := 1) (by decide +kernel)) rfl <|
    z_getR (ci := 9) (j := 49) (idx := 113) (zd (i := .getfield 113) (n := 3) (by decide +kernel)) (by decide +kernel) (by decide +kernel) rfl g1177 <|
    z_iload_n (n := 1) (i := 1) (zd (i := .iload_n 1) (n := 1) (by decide +kernel)) rfl <|
    z_iload_n (n := 2) (i := 2) (zd (i := .iload_n 2) (n := 1) (by decide +kernel)) rfl <|
    z_iast (zd (i := .iastore) (n := 1) (by decide +kernel)) <|
    z_aload_n (n := 0) (i := 0) (zd (i := .aload_n 0) (n := 1) (by decide +kernel)) rfl <|
    z_callV (idx := 390) (ci := 9) (N := n_X9_records) (zd (i := .invokevirtual 390) (n := 3) (by decide +kernel)) to_X9_records g1526 g1528 g81 (by decide +kernel) rfl rfl rfl (cs_X9_records (l := l) (G := G) (gh := gh) (d)) <|
    z_iconst (n := 1) (zd (i := .iconst (1)) (n := 1) (by decide +kernel)) (by decide +kernel) <|
    z_zret (zd (i := .ireturn) (n := 1) (by decide +kernel)) rfl
noncomputable def t_X9_move : List zBl := [b_X9_move_0, b_X9_move_1, b_X9_move_2, b_X9_move_3, b_X9_move_4]
theorem tt_X9_move (d : Nat) : zT (zPb l G gh (d + 3) n_X9_move p_X9_move) t_X9_move p_X9_move := ⟨s_X9_move_0 d, s_X9_move_1 d, s_X9_move_2 d, s_X9_move_3 d, s_X9_move_4 d, trivial⟩
def q_X9_move_0 : List (Nat × Nat) := [(292, zk102), (304, zk107), (310, zk103), (323, zk104), (324, zk104), (325, zk108)]
noncomputable def al_X9_move_0 : zAq := [(some (.inl 9223372043297226753), [(292, zk109), (304, zk107), (310, zk103), (323, zk106), (324, zk106), (325, zk112)])]
noncomputable def fm_X9_move_0 : List zFm := [(0, [], (fun vs => [.inr (.ref 292), .inl 9223372043297226757, .inl 9223372043297226771]), (fun vs => zP q_X9_move_0), (fun vs => Nat.sub (Nat.add 0 0) 0))]
def bf_X9_move_0 : List Nat := []
theorem r_X9_move_0_0 : zbox [] (fun vs => zFrun (zpost (zAlq al_X9_move_0)) 1000 t_X9_move fm_X9_move_0 bf_X9_move_0 (0, vs)) = true := by decide +kernel
set_option maxRecDepth 100000 in
theorem x_X9_move_0 (d : Nat) : zS l G gh (d + 3) (zpost (zAlq al_X9_move_0)) n_X9_move (zn 0 p_X9_move 0) (zwc (0, [.inr (.ref 292), .inl 9223372043297226757, .inl 9223372043297226771], zP q_X9_move_0) 0) := zentry (tt_X9_move d) fm_X9_move_0 bf_X9_move_0 1000 (by decide +kernel) rfl ⟨Nat.zero_lt_succ _, trivial⟩ (fun f hf => match f, hf with
  | 0, _ => fun vs hv => (zbox_t r_X9_move_0_0) vs hv
  | f + 1, h => absurd (show f + 1 < 1 from h) (Nat.not_lt.mpr (Nat.le_add_left 1 f)))
noncomputable def gs_X9_move_0 : zMt := zgq false [] 3 [.inr (.ref 292), .inl 9223372043297226757, .inl 9223372043297226771] q_X9_move_0 al_X9_move_0
set_option maxRecDepth 100000 in
theorem cs_X9_move_0 (d : Nat) : zC l G gh (d + 3) n_X9_move gs_X9_move_0 := zgq_ok0 (pcs := p_X9_move) (by decide) rfl rfl (fun a ha => by simp only [al_X9_move_0, List.mem_cons, List.not_mem_nil, or_false] at ha; rcases ha with rfl <;> decide +kernel) (fun gh => x_X9_move_0 d) (by decide +kernel)
def q_X9_move_1 : List (Nat × Nat) := [(292, zk102), (304, zk107)]
noncomputable def al_X9_move_1 : zAq := [(some (.inl 2147483648), [(292, zk102), (304, zk107)])]
noncomputable def fm_X9_move_1 : List zFm := [(0, [], (fun vs => [.inr (.ref 292), .inl 9223372043297226757, .inl 6442450943]), (fun vs => zP q_X9_move_1), (fun vs => Nat.sub (Nat.add 0 0) 0))]
def bf_X9_move_1 : List Nat := []
theorem r_X9_move_1_0 : zbox [] (fun vs => zFrun (zpost (zAlq al_X9_move_1)) 1000 t_X9_move fm_X9_move_1 bf_X9_move_1 (0, vs)) = true := by decide +kernel
set_option maxRecDepth 100000 in
theorem x_X9_move_1 (d : Nat) : zS l G gh (d + 3) (zpost (zAlq al_X9_move_1)) n_X9_move (zn 0 p_X9_move 0) (zwc (0, [.inr (.ref 292), .inl 9223372043297226757, .inl 6442450943], zP q_X9_move_1) 0) := zentry (tt_X9_move d) fm_X9_move_1 bf_X9_move_1 1000 (by decide +kernel) rfl ⟨Nat.zero_lt_succ _, trivial⟩ (fun f hf => match f, hf with
  | 0, _ => fun vs hv => (zbox_t r_X9_move_1_0) vs hv
  | f + 1, h => absurd (show f + 1 < 1 from h) (Nat.not_lt.mpr (Nat.le_add_left 1 f)))
noncomputable def gs_X9_move_1 : zMt := zgq false [] 3 [.inr (.ref 292), .inl 9223372043297226757, .inl 6442450943] q_X9_move_1 al_X9_move_1
set_option maxRecDepth 100000 in
theorem cs_X9_move_1 (d : Nat) : zC l G gh (d + 3) n_X9_move gs_X9_move_1 := zgq_ok0 (pcs := p_X9_move) (by decide) rfl rfl (fun a ha => by simp only [al_X9_move_1, List.mem_cons, List.not_mem_nil, or_false] at ha; rcases ha with rfl <;> decide +kernel) (fun gh => x_X9_move_1 d) (by decide +kernel)
def q_X9_move_2 : List (Nat × Nat) := [(292, zk102), (304, zk107)]
noncomputable def al_X9_move_2 : zAq := [(some (.inl 2147483648), [(292, zk102), (304, zk107)])]
noncomputable def fm_X9_move_2 : List zFm := [(0, [], (fun vs => [.inr (.ref 292), .inl 9223372043297226757, .inl 9223372131344056319]), (fun vs => zP q_X9_move_2), (fun vs => Nat.sub (Nat.add 0 0) 0))]
def bf_X9_move_2 : List Nat := []
theorem r_X9_move_2_0 : zbox [] (fun vs => zFrun (zpost (zAlq al_X9_move_2)) 1000 t_X9_move fm_X9_move_2 bf_X9_move_2 (0, vs)) = true := by decide +kernel
set_option maxRecDepth 100000 in
theorem x_X9_move_2 (d : Nat) : zS l G gh (d + 3) (zpost (zAlq al_X9_move_2)) n_X9_move (zn 0 p_X9_move 0) (zwc (0, [.inr (.ref 292), .inl 9223372043297226757, .inl 9223372131344056319], zP q_X9_move_2) 0) := zentry (tt_X9_move d) fm_X9_move_2 bf_X9_move_2 1000 (by decide +kernel) rfl ⟨Nat.zero_lt_succ _, trivial⟩ (fun f hf => match f, hf with
  | 0, _ => fun vs hv => (zbox_t r_X9_move_2_0) vs hv
  | f + 1, h => absurd (show f + 1 < 1 from h) (Nat.not_lt.mpr (Nat.le_add_left 1 f)))
noncomputable def gs_X9_move_2 : zMt := zgq false [] 3 [.inr (.ref 292), .inl 9223372043297226757, .inl 9223372131344056319] q_X9_move_2 al_X9_move_2
set_option maxRecDepth 100000 in
theorem cs_X9_move_2 (d : Nat) : zC l G gh (d + 3) n_X9_move gs_X9_move_2 := zgq_ok0 (pcs := p_X9_move) (by decide) rfl rfl (fun a ha => by simp only [al_X9_move_2, List.mem_cons, List.not_mem_nil, or_false] at ha; rcases ha with rfl <;> decide +kernel) (fun gh => x_X9_move_2 d) (by decide +kernel)
def q_X9_move_3 : List (Nat × Nat) := [(292, zk102), (304, zk107)]
noncomputable def al_X9_move_3 : zAq := [(some (.inl 2147483648), [(292, zk102), (304, zk107)])]
noncomputable def fm_X9_move_3 : List zFm := [(0, [], (fun vs => [.inr (.ref 292), .inl 6442450943, .inl 8589934591]), (fun vs => zP q_X9_move_3), (fun vs => Nat.sub (Nat.add 0 0) 0))]
def bf_X9_move_3 : List Nat := []
theorem r_X9_move_3_0 : zbox [] (fun vs => zFrun (zpost (zAlq al_X9_move_3)) 1000 t_X9_move fm_X9_move_3 bf_X9_move_3 (0, vs)) = true := by decide +kernel
set_option maxRecDepth 100000 in
theorem x_X9_move_3 (d : Nat) : zS l G gh (d + 3) (zpost (zAlq al_X9_move_3)) n_X9_move (zn 0 p_X9_move 0) (zwc (0, [.inr (.ref 292), .inl 6442450943, .inl 8589934591], zP q_X9_move_3) 0) := zentry (tt_X9_move d) fm_X9_move_3 bf_X9_move_3 1000 (by decide +kernel) rfl ⟨Nat.zero_lt_succ _, trivial⟩ (fun f hf => match f, hf with
  | 0, _ => fun vs hv => (zbox_t r_X9_move_3_0) vs hv
  | f + 1, h => absurd (show f + 1 < 1 from h) (Nat.not_lt.mpr (Nat.le_add_left 1 f)))
noncomputable def gs_X9_move_3 : zMt := zgq false [] 3 [.inr (.ref 292), .inl 6442450943, .inl 8589934591] q_X9_move_3 al_X9_move_3
set_option maxRecDepth 100000 in
theorem cs_X9_move_3 (d : Nat) : zC l G gh (d + 3) n_X9_move gs_X9_move_3 := zgq_ok0 (pcs := p_X9_move) (by decide) rfl rfl (fun a ha => by simp only [al_X9_move_3, List.mem_cons, List.not_mem_nil, or_false] at ha; rcases ha with rfl <;> decide +kernel) (fun gh => x_X9_move_3 d) (by decide +kernel)
def q_X9_move_4 : List (Nat × Nat) := [(292, zk102), (304, zk107)]
noncomputable def al_X9_move_4 : zAq := [(some (.inl 2147483648), [(292, zk102), (304, zk107)])]
noncomputable def fm_X9_move_4 : List zFm := [(0, [], (fun vs => [.inr (.ref 292), .inl 9223372071214514175, .inl 8589934591]), (fun vs => zP q_X9_move_4), (fun vs => Nat.sub (Nat.add 0 0) 0))]
def bf_X9_move_4 : List Nat := []
theorem r_X9_move_4_0 : zbox [] (fun vs => zFrun (zpost (zAlq al_X9_move_4)) 1000 t_X9_move fm_X9_move_4 bf_X9_move_4 (0, vs)) = true := by decide +kernel
set_option maxRecDepth 100000 in
theorem x_X9_move_4 (d : Nat) : zS l G gh (d + 3) (zpost (zAlq al_X9_move_4)) n_X9_move (zn 0 p_X9_move 0) (zwc (0, [.inr (.ref 292), .inl 9223372071214514175, .inl 8589934591], zP q_X9_move_4) 0) := zentry (tt_X9_move d) fm_X9_move_4 bf_X9_move_4 1000 (by decide +kernel) rfl ⟨Nat.zero_lt_succ _, trivial⟩ (fun f hf => match f, hf with
  | 0, _ => fun vs hv => (zbox_t r_X9_move_4_0) vs hv
  | f + 1, h => absurd (show f + 1 < 1 from h) (Nat.not_lt.mpr (Nat.le_add_left 1 f)))
noncomputable def gs_X9_move_4 : zMt := zgq false [] 3 [.inr (.ref 292), .inl 9223372071214514175, .inl 8589934591] q_X9_move_4 al_X9_move_4
set_option maxRecDepth 100000 in
theorem cs_X9_move_4 (d : Nat) : zC l G gh (d + 3) n_X9_move gs_X9_move_4 := zgq_ok0 (pcs := p_X9_move) (by decide) rfl rfl (fun a ha => by simp only [al_X9_move_4, List.mem_cons, List.not_mem_nil, or_false] at ha; rcases ha with rfl <;> decide +kernel) (fun gh => x_X9_move_4 d) (by decide +kernel)
noncomputable def gs_X9_move : zMt := (zor gs_X9_move_0 (zor gs_X9_move_1 (zor gs_X9_move_2 (zor gs_X9_move_3 gs_X9_move_4))))
theorem cs_X9_move (d : Nat) : zC l G gh (d + 3) n_X9_move gs_X9_move := (zor_ok (cs_X9_move_0 d) (zor_ok (cs_X9_move_1 d) (zor_ok (cs_X9_move_2 d) (zor_ok (cs_X9_move_3 d) (cs_X9_move_4 d)))))
def n_X9_tell : qMn := (yX9_tell, cX9_tell, 4, (some Jvm.ClassFile.FieldType.int), 0, 0)
theorem to_X9_tell : qTo n_X9_tell 3 := ⟨g1676, g110, ⟨by decide, by decide, by decide +kernel⟩, by decide⟩
def p_X9_tell : List Nat := [0, 9, 16, 21, 28, 38, 40, 63, 68, 69]
noncomputable def b_X9_tell_0 : zBl := fun jp K => oNFC 0 9 58 2147483668 zeqN zneN zn1_eq zn1_ne (jp 5) (jp 1)
theorem s_X9_tell_0 (d : Nat) : zPb l G gh (d + 3) n_X9_tell p_X9_tell 0 b_X9_tell_0 := fun K jp hj =>
    z_nFC_eq (r := 0) (ci := 9) (j := 58) (c0 := 2147483668) (a1 := 4) (a2 := 2) (off := 32) (tgt := 38) (zFd_n (n := 0) (r := 0) (ci := 9) (j := 58) (idx := 251) (zd (i := .aload_n 0) (n := 1) (by decide +kernel)) rfl (zd (i := .getfield 251) (n := 3) (by decide +kernel)) (by decide +kernel) (by decide +kernel) rfl g1186) (by decide +kernel) rfl (zCn_b (n := 20) (zd (i := .bipush (20)) (n := 2) (by decide +kernel)) (by decide +kernel)) (zd (i := .if_icmp .eq (32)) (n := 3) (by decide +kernel)) (by decide +kernel) (zj (hj 5) (by decide +kernel)) (zj (hj 1) (by decide +kernel))
noncomputable def b_X9_tell_1 : zBl := fun jp K => oIld 1 <| oCs 1 f_X9_isX <| oIf zeq zne (jp 5) (jp 2)
theorem s_X9_tell_1 (d : Nat) : zPb l G gh (d + 3) n_X9_tell p_X9_tell 9 b_X9_tell_1 := fun K jp hj =>
    z_iload_n (n := 1) (i := 1) (zd (i := .iload_n 1) (n := 1) (by decide +kernel)) rfl <|
    z_callS (idx := 387) (N := n_X9_isX) (zd (i := .invokestatic 387) (n := 3) (by decide +kernel)) to_X9_isX g1507 g1508 rfl rfl (c_X9_isX (l := l) (G := G) (gh := gh) (d)) <|
    z_if_eq (off := 25) (tgt := 38) (zd (i := .ifCond .eq (25)) (n := 3) (by decide +kernel)) (by decide +kernel) (zj (hj 5) (by decide +kernel)) (zj (hj 2) (by decide +kernel))
noncomputable def b_X9_tell_2 : zBl := fun jp K => oNLC 2 2147483647 zeqN zneN zn1_eq zn1_ne (jp 4) (jp 3)
theorem s_X9_tell_2 (d : Nat) : zPb l G gh (d + 3) n_X9_tell p_X9_tell 16 b_X9_tell_2 := fun K jp hj =>
    z_nLC_eq (i := 2) (c0 := 2147483647) (a1 := 1) (a2 := 1) (off := 10) (tgt := 28) (zLd_n (n := 2) (i := 2) (zd (i := .iload_n 2) (n := 1) (by decide +kernel)) rfl) (zCn_c (n := -1) (zd (i := .iconst (-1)) (n := 1) (by decide +kernel)) (by decide +kernel)) (zd (i := .if_icmp .eq (10)) (n := 3) (by decide +kernel)) (by decide +kernel) (zj (hj 4) (by decide +kernel)) (zj (hj 3) (by decide +kernel))
noncomputable def b_X9_tell_3 : zBl := fun jp K => oIld 2 <| oCs 1 f_X9_isX <| oIf zeq zne (jp 5) (jp 4)
theorem s_X9_tell_3 (d : Nat) : zPb l G gh (d + 3) n_X9_tell p_X9_tell 21 b_X9_tell_3 := fun K jp hj =>
    z_iload_n (n := 2) (i := 2) (zd (i := .iload_n 2) (n := 1) (by decide +kernel)) rfl <|
    z_callS (idx := 387) (N := n_X9_isX) (zd (i := .invokestatic 387) (n := 3) (by decide +kernel)) to_X9_isX g1507 g1508 rfl rfl (c_X9_isX (l := l) (G := G) (gh := gh) (d)) <|
    z_if_eq (off := 13) (tgt := 38) (zd (i := .ifCond .eq (13)) (n := 3) (by decide +kernel)) (by decide +kernel) (zj (hj 5) (by decide +kernel)) (zj (hj 4) (by decide +kernel))
noncomputable def b_X9_tell_4 : zBl := fun jp K => oIld 3 <| oInt 2147483648 <| oInt 2147483672 <| oCs 3 f_X9_in <| oIf zne zeq (jp 6) (jp 5)
theorem s_X9_tell_4 (d : Nat) : zPb l G gh (d + 3) n_X9_tell p_X9_tell 28 b_X9_tell_4 := fun K jp hj =>
    z_iload_n (n := 3) (i := 3) (zd (i := .iload_n 3) (n := 1) (by decide +kernel)) rfl <|
    z_iconst (n := 0) (zd (i := .iconst (0)) (n := 1) (by decide +kernel)) (by decide +kernel) <|
    z_bipush (n := 24) (zd (i := .bipush (24)) (n := 2) (by decide +kernel)) (by decide +kernel) <|
    z_callS (idx := 304) (N := n_X9_in) (zd (i := .invokestatic 304) (n := 3) (by decide +kernel)) to_X9_in g1442 g1443 rfl rfl (c_X9_in (l := l) (G := G) (gh := gh) (d + 1)) <|
    z_if_ne (off := 5) (tgt := 40) (zd (i := .ifCond .ne (5)) (n := 3) (by decide +kernel)) (by decide +kernel) (zj (hj 6) (by decide +kernel)) (zj (hj 5) (by decide +kernel))
noncomputable def b_X9_tell_5 : zBl := fun jp K => oInt 2147483647 <| oIret K
theorem s_X9_tell_5 (d : Nat) : zPb l G gh (d + 3) n_X9_tell p_X9_tell 38 b_X9_tell_5 := fun K jp hj =>
    z_iconst (n := -1) (zd (i := .iconst (-1)) (n := 1) (by decide +kernel)) (by decide +kernel) <|
    z_iret (zd (i := .ireturn) (n := 1) (by decide +kernel)) rfl
noncomputable def b_X9_tell_6 : zBl := fun jp K => oAld 0 <| oGetR 9 59 <| oAld 0 <| oGetI 9 58 <| oIld 1 <| oXast 10 zid <| oAld 0 <| oGetR 9 60 <| oAld 0 <| oGetI 9 58 <| oNLC 2 2147483647 zneN zeqN zn1_ne zn1_eq (jp 8) (jp 7)
theorem s_X9_tell_6 (d : Nat) : zPb l G gh (d + 3) n_X9_tell p_X9_tell 40 b_X9_tell_6 := fun K jp hj =>
    z_aload_n (n := 0) (i := 0) (zd (i := .aload_n 0) (n := 1) (by decide +kernel)) rfl <|
    z_getR (ci := 9) (j := 59) (idx := 131) (zd (i := .getfield 131) (n := 3) (by decide +kernel)) (by decide +kernel) (by decide +kernel) rfl g1187 <|
    z_aload_n (n := 0) (i := 0) (zd (i := .aload_n 0) (n := 1) (by decide +kernel)) rfl <|
    z_getI (ci := 9) (j := 58) (idx := 251) (zd (i := .getfield 251) (n := 3) (by decide +kernel)) (by decide +kernel) (by decide +kernel) rfl g1186 <|
    z_iload_n (n := 1) (i := 1) (zd (i := .iload_n 1) (n := 1) (by decide +kernel)) rfl <|
    z_iast (zd (i := .iastore) (n := 1) (by decide +kernel)) <|
    z_aload_n (n := 0) (i := 0) (zd (i := .aload_n 0) (n := 1) (by decide +kernel)) rfl <|
    z_getR (ci := 9) (j := 60) (idx := 134) (zd (i := .getfield 134) (n := 3) (by decide +kernel)) (by decide +kernel) (by decide +kernel) rfl g1188 <|
    z_aload_n (n := 0) (i := 0) (zd (i := .aload_n 0) (n := 1) (by decide +kernel)) rfl <|
    z_getI (ci := 9) (j := 58) (idx := 251) (zd (i := .getfield 251) (n := 3) (by decide +kernel)) (by decide +kernel) (by decide +kernel) rfl g1186 <|
    z_nLC_ne (i := 2) (c0 := 2147483647) (a1 := 1) (a2 := 1) (off := 8) (tgt := 68) (zLd_n (n := 2) (i := 2) (zd (i := .iload_n 2) (n := 1) (by decide +kernel)) rfl) (zCn_c (n := -1) (zd (i := .iconst (-1)) (n := 1) (by decide +kernel)) (by decide +kernel)) (zd (i := .if_icmp .ne (8)) (n := 3) (by decide +kernel)) (by decide +kernel) (zj (hj 8) (by decide +kernel)) (zj (hj 7) (by decide +kernel))
noncomputable def b_X9_tell_7 : zBl := fun jp K => oInt 2147483646 <| jp 9
theorem s_X9_tell_7 (d : Nat) : zPb l G gh (d + 3) n_X9_tell p_X9_tell 63 b_X9_tell_7 := fun K jp hj =>
    z_bipush (n := -2) (zd (i := .bipush (-2)) (n := 2) (by decide +kernel)) (by decide +kernel) <|
    z_goto (off := 4) (tgt := 69) (zd (i := .goto (4)) (n := 3) (by decide +kernel)) (by decide +kernel) (zj (hj 9) (by decide +kernel))
noncomputable def b_X9_tell_8 : zBl := fun jp K => oIld 2 <| jp 9
theorem s_X9_tell_8 (d : Nat) : zPb l G gh (d + 3) n_X9_tell p_X9_tell 68 b_X9_tell_8 := fun K jp hj =>
    z_iload_n (n := 2) (i := 2) (zd (i := .iload_n 2) (n := 1) (by decide +kernel)) rfl <|
    (zj (hj 9) (by decide +kernel))
noncomputable def b_X9_tell_9 : zBl := fun jp K => oXast 10 zid <| oAld 0 <| oGetR 9 61 <| oAld 0 <| oGetI 9 58 <| oIld 3 <| oXast 10 zid <| oAld 0 <| oDup <| oGetI 9 58 <| oInt 2147483649 <| oB2 zadd <| oPutI 9 58 <| oAld 0 <| oGetI 9 58 <| oInt 2147483649 <| oB2 zsub <| oIret K
theorem s_X9_tell_9 (d : Nat) : zPb l G gh (d + 3) n_X9_tell p_X9_tell 69 b_X9_tell_9 := fun K jp hj =>
    z_iast (zd (i := .iastore) (n := 1) (by decide +kernel)) <|
    z_aload_n (n := 0) (i := 0) (zd (i := .aload_n 0) (n := 1) (by decide +kernel)) rfl <|
    z_getR (ci := 9) (j := 61) (idx := 137) (zd (i := .getfield 137) (n := 3) (by decide +kernel)) (by decide +kernel) (by decide +kernel) rfl g1189 <|
    z_aload_n (n := 0) (i := 0) (zd (i := .aload_n 0) (n := 1) (by decide +kernel)) rfl <|
    z_getI (ci := 9) (j := 58) (idx := 251) (zd (i := .getfield 251) (n := 3) (by decide +kernel)) (by decide +kernel) (by decide +kernel) rfl g1186 <|
    z_iload_n (n := 3) (i := 3) (zd (i := .iload_n 3) (n := 1) (by decide +kernel)) rfl <|
    z_iast (zd (i := .iastore) (n := 1) (by decide +kernel)) <|
    z_aload_n (n := 0) (i := 0) (zd (i := .aload_n 0) (n := 1) (by decide +kernel)) rfl <|
    z_dup (zd (i := .dup) (n := 1) (by decide +kernel)) <|
    z_getI (ci := 9) (j := 58) (idx := 251) (zd (i := .getfield 251) (n := 3) (by decide +kernel)) (by decide +kernel) (by decide +kernel) rfl g1186 <|
    z_iconst (n := 1) (zd (i := .iconst (1)) (n := 1) (by decide +kernel)) (by decide +kernel) <|
    z_iadd (zd (i := .iadd) (n := 1) (by decide +kernel)) <|
    z_putI (ci := 9) (j := 58) (idx := 251) (zd (i := .putfield 251) (n := 3) (by decide +kernel)) (by decide +kernel) (by decide +kernel) rfl g1186 (Or.inl rfl) <|
    z_aload_n (n := 0) (i := 0) (zd (i := .aload_n 0) (n := 1) (by decide +kernel)) rfl <|
    z_getI (ci := 9) (j := 58) (idx := 251) (zd (i := .getfield 251) (n := 3) (by decide +kernel)) (by decide +kernel) (by decide +kernel) rfl g1186 <|
    z_iconst (n := 1) (zd (i := .iconst (1)) (n := 1) (by decide +kernel)) (by decide +kernel) <|
    z_isub (zd (i := .isub) (n := 1) (by decide +kernel)) <|
    z_iret (zd (i := .ireturn) (n := 1) (by decide +kernel)) rfl
noncomputable def t_X9_tell : List zBl := [b_X9_tell_0, b_X9_tell_1, b_X9_tell_2, b_X9_tell_3, b_X9_tell_4, b_X9_tell_5, b_X9_tell_6, b_X9_tell_7, b_X9_tell_8, b_X9_tell_9]
theorem tt_X9_tell (d : Nat) : zT (zPb l G gh (d + 3) n_X9_tell p_X9_tell) t_X9_tell p_X9_tell := ⟨s_X9_tell_0 d, s_X9_tell_1 d, s_X9_tell_2 d, s_X9_tell_3 d, s_X9_tell_4 d, s_X9_tell_5 d, s_X9_tell_6 d, s_X9_tell_7 d, s_X9_tell_8 d, s_X9_tell_9 d, trivial⟩
def q_X9_tell_0 : List (Nat × Nat) := [(292, zk102), (330, zk7), (331, zk7), (332, zk7)]
noncomputable def al_X9_tell_0 : zAq := [(some (.inl 9223372039002259475), [(292, zk109), (330, zk9), (331, zk9), (332, zk9)])]
noncomputable def fm_X9_tell_0 : List zFm := [(0, [], (fun vs => [.inr (.ref 292), .inl 8589934591, .inl 8589934591, .inl 8589934591]), (fun vs => zP q_X9_tell_0), (fun vs => Nat.sub (Nat.add 0 0) 0))]
def bf_X9_tell_0 : List Nat := []
theorem r_X9_tell_0_0 : zbox [] (fun vs => zFrun (zpost (zAlq al_X9_tell_0)) 1000 t_X9_tell fm_X9_tell_0 bf_X9_tell_0 (0, vs)) = true := by decide +kernel
set_option maxRecDepth 100000 in
theorem x_X9_tell_0 (d : Nat) : zS l G gh (d + 3) (zpost (zAlq al_X9_tell_0)) n_X9_tell (zn 0 p_X9_tell 0) (zwc (0, [.inr (.ref 292), .inl 8589934591, .inl 8589934591, .inl 8589934591], zP q_X9_tell_0) 0) := zentry (tt_X9_tell d) fm_X9_tell_0 bf_X9_tell_0 1000 (by decide +kernel) rfl ⟨Nat.zero_lt_succ _, trivial⟩ (fun f hf => match f, hf with
  | 0, _ => fun vs hv => (zbox_t r_X9_tell_0_0) vs hv
  | f + 1, h => absurd (show f + 1 < 1 from h) (Nat.not_lt.mpr (Nat.le_add_left 1 f)))
noncomputable def gs_X9_tell_0 : zMt := zgq false [] 4 [.inr (.ref 292), .inl 8589934591, .inl 8589934591, .inl 8589934591] q_X9_tell_0 al_X9_tell_0
set_option maxRecDepth 100000 in
theorem cs_X9_tell_0 (d : Nat) : zC l G gh (d + 3) n_X9_tell gs_X9_tell_0 := zgq_ok0 (pcs := p_X9_tell) (by decide) rfl rfl (fun a ha => by simp only [al_X9_tell_0, List.mem_cons, List.not_mem_nil, or_false] at ha; rcases ha with rfl <;> decide +kernel) (fun gh => x_X9_tell_0 d) (by decide +kernel)
noncomputable def gs_X9_tell : zMt := gs_X9_tell_0
theorem cs_X9_tell (d : Nat) : zC l G gh (d + 3) n_X9_tell gs_X9_tell := (cs_X9_tell_0 d)
def n_X9_looksAt : qMn := (yX9_looksAt, cX9_looksAt, 6, none, 0, 0)
theorem to_X9_looksAt : qTo n_X9_looksAt 4 := ⟨g1460, g110, ⟨by decide, by decide, by decide +kernel⟩, by decide⟩
def p_X9_looksAt : List Nat := [0, 58, 62, 63]
noncomputable def b_X9_looksAt_0 : zBl := fun jp K => oAld 0 <| oIld 4 <| oCv 9 1 gs_X9_heatAt <| oIst 5 <| oAld 0 <| oIld 4 <| oCv 9 1 gs_X9_looks <| oAld 0 <| oGetR 9 45 <| oInt 2147483650 <| oIld 5 <| oXast 10 zid <| oAld 0 <| oGetR 9 45 <| oInt 2147483651 <| oIld 1 <| oIld 2 <| oCs 2 f_X9_off <| oXast 10 zid <| oAld 0 <| oGetR 9 45 <| oInt 2147483652 <| oIld 3 <| oXast 10 zid <| oAld 0 <| oGetR 9 45 <| oInt 2147483653 <| oIld 2 <| oXast 10 zid <| oAld 0 <| oGetR 9 45 <| oInt 2147483655 <| oNLL 2 1 zleN zgtN zn1_le zn2_le zn1_gt zn2_gt (jp 2) (jp 1)
theorem s_X9_looksAt_0 (d : Nat) (hG : zGood gh) : zPb l G gh (d + 4) n_X9_looksAt p_X9_looksAt 0 b_X9_looksAt_0 := fun K jp hj =>
    z_aload_n (n := 0) (i := 0) (zd (i := .aload_n 0) (n := 1) (by decide +kernel)) rfl <|
    z_iload (i := 4) (zd (i := .iload 4) (n := 2) (by decide +kernel)) <|
    z_callV (idx := 327) (ci := 9) (N := n_X9_heatAt) (zd (i := .invokevirtual 327) (n := 3) (by decide +kernel)) to_X9_heatAt g1461 g1463 g71 (by decide +kernel) rfl rfl rfl (cs_X9_heatAt (l := l) (G := G) (gh := gh) (d) hG) <|
    z_istore (i := 5) (zd (i := .istore 5) (n := 2) (by decide +kernel)) (by decide +kernel) <|
    z_aload_n (n := 0) (i := 0) (zd (i := .aload_n 0) (n := 1) (by decide +kernel)) rfl <|
    z_iload (i := 4) (zd (i := .iload 4) (n := 2) (by decide +kernel)) <|
    z_callV (idx := 318) (ci := 9) (N := n_X9_looks) (zd (i := .invokevirtual 318) (n := 3) (by decide +kernel)) to_X9_looks g1465 g1467 g72 (by decide +kernel) rfl rfl rfl (cs_X9_looks (l := l) (G := G) (gh := gh) (d + 2)) <|
    z_aload_n (n := 0) (i := 0) (zd (i := .aload_n 0) (n := 1) (by decide +kernel)) rfl <|
    z_getR (ci := 9) (j := 45) (idx := 104) (zd (i := .getfield 104) (n := 3) (by decide +kernel)) (by decide +kernel) (by decide +kernel) rfl g1173 <|
    z_iconst (n := 2) (zd (i := .iconst (2)) (n := 1) (by decide +kernel)) (by decide +kernel) <|
    z_iload (i := 5) (zd (i := .iload 5) (n := 2) (by decide +kernel)) <|
    z_iast (zd (i := .iastore) (n := 1) (by decide +kernel)) <|
    z_aload_n (n := 0) (i := 0) (zd (i := .aload_n 0) (n := 1) (by decide +kernel)) rfl <|
    z_getR (ci := 9) (j := 45) (idx := 104) (zd (i := .getfield 104) (n := 3) (by decide +kernel)) (by decide +kernel) (by decide +kernel) rfl g1173 <|
    z_iconst (n := 3) (zd (i := .iconst (3)) (n := 1) (by decide +kernel)) (by decide +kernel) <|
    z_iload_n (n := 1) (i := 1) (zd (i := .iload_n 1) (n := 1) (by decide +kernel)) rfl <|
    z_iload_n (n := 2) (i := 2) (zd (i := .iload_n 2) (n := 1) (by decide +kernel)) rfl <|
    z_callS (idx := 330) (N := n_X9_off) (zd (i := .invokestatic 330) (n := 3) (by decide +kernel)) to_X9_off g1480 g1481 rfl rfl (c_X9_off (l := l) (G := G) (gh := gh) (d + 2)) <|
    z_iast (zd (i := .iastore) (n := 1) (by decide +kernel)) <|
    z_aload_n (n := 0) (i := 0) (zd (i := .aload_n 0) (n := 1) (by decide +kernel)) rfl <|
    z_getR (ci := 9) (j := 45) (idx := 104) (zd (i := .getfield 104) (n := 3) (by decide +kernel)) (by decide +kernel) (by decide +kernel) rfl g1173 <|
    z_iconst (n := 4) (zd (i := .iconst (4)) (n := 1) (by decide +kernel)) (by decide +kernel) <|
    z_iload_n (n := 3) (i := 3) (zd (i := .iload_n 3) (n := 1) (by decide +kernel)) rfl <|
    z_iast (zd (i := .iastore) (n := 1) (by decide +kernel)) <|
    z_aload_n (n := 0) (i := 0) (zd (i := .aload_n 0) (n := 1) (by decide +kernel)) rfl <|
    z_getR (ci := 9) (j := 45) (idx := 104) (zd (i := .getfield 104) (n := 3) (by decide +kernel)) (by decide +kernel) (by decide +kernel) rfl g1173 <|
    z_iconst (n := 5) (zd (i := .iconst (5)) (n := 1) (by decide +kernel)) (by decide +kernel) <|
    z_iload_n (n := 2) (i := 2) (zd (i := .iload_n 2) (n := 1) (by decide +kernel)) rfl <|
    z_iast (zd (i := .iastore) (n := 1) (by decide +kernel)) <|
    z_aload_n (n := 0) (i := 0) (zd (i := .aload_n 0) (n := 1) (by decide +kernel)) rfl <|
    z_getR (ci := 9) (j := 45) (idx := 104) (zd (i := .getfield 104) (n := 3) (by decide +kernel)) (by decide +kernel) (by decide +kernel) rfl g1173 <|
    z_bipush (n := 7) (zd (i := .bipush (7)) (n := 2) (by decide +kernel)) (by decide +kernel) <|
    z_nLL_le (i := 2) (j := 1) (a1 := 1) (a2 := 1) (off := 7) (tgt := 62) (zLd_n (n := 2) (i := 2) (zd (i := .iload_n 2) (n := 1) (by decide +kernel)) rfl) (zLd_n (n := 1) (i := 1) (zd (i := .iload_n 1) (n := 1) (by decide +kernel)) rfl) (zd (i := .if_icmp .le (7)) (n := 3) (by decide +kernel)) (by decide +kernel) (zj (hj 2) (by decide +kernel)) (zj (hj 1) (by decide +kernel))
noncomputable def b_X9_looksAt_1 : zBl := fun jp K => oInt 2147483649 <| jp 3
theorem s_X9_looksAt_1 (d : Nat) (hG : zGood gh) : zPb l G gh (d + 4) n_X9_looksAt p_X9_looksAt 58 b_X9_looksAt_1 := fun K jp hj =>
    z_iconst (n := 1) (zd (i := .iconst (1)) (n := 1) (by decide +kernel)) (by decide +kernel) <|
    z_goto (off := 4) (tgt := 63) (zd (i := .goto (4)) (n := 3) (by decide +kernel)) (by decide +kernel) (zj (hj 3) (by decide +kernel))
noncomputable def b_X9_looksAt_2 : zBl := fun jp K => oInt 2147483648 <| jp 3
theorem s_X9_looksAt_2 (d : Nat) (hG : zGood gh) : zPb l G gh (d + 4) n_X9_looksAt p_X9_looksAt 62 b_X9_looksAt_2 := fun K jp hj =>
    z_iconst (n := 0) (zd (i := .iconst (0)) (n := 1) (by decide +kernel)) (by decide +kernel) <|
    (zj (hj 3) (by decide +kernel))
noncomputable def b_X9_looksAt_3 : zBl := fun jp K => oXast 10 zid <| oAld 0 <| oGetR 9 45 <| oInt 2147483656 <| oIld 1 <| oXast 10 zid <| oVret K
theorem s_X9_looksAt_3 (d : Nat) (hG : zGood gh) : zPb l G gh (d + 4) n_X9_looksAt p_X9_looksAt 63 b_X9_looksAt_3 := fun K jp hj =>
    z_iast (zd (i := .iastore) (n := 1) (by decide +kernel)) <|
    z_aload_n (n := 0) (i := 0) (zd (i := .aload_n 0) (n := 1) (by decide +kernel)) rfl <|
    z_getR (ci := 9) (j := 45) (idx := 104) (zd (i := .getfield 104) (n := 3) (by decide +kernel)) (by decide +kernel) (by decide +kernel) rfl g1173 <|
    z_bipush (n := 8) (zd (i := .bipush (8)) (n := 2) (by decide +kernel)) (by decide +kernel) <|
    z_iload_n (n := 1) (i := 1) (zd (i := .iload_n 1) (n := 1) (by decide +kernel)) rfl <|
    z_iast (zd (i := .iastore) (n := 1) (by decide +kernel)) <|
    z_vret (zd (i := .return_) (n := 1) (by decide +kernel)) rfl
noncomputable def t_X9_looksAt : List zBl := [b_X9_looksAt_0, b_X9_looksAt_1, b_X9_looksAt_2, b_X9_looksAt_3]
theorem tt_X9_looksAt (d : Nat) (hG : zGood gh) : zT (zPb l G gh (d + 4) n_X9_looksAt p_X9_looksAt) t_X9_looksAt p_X9_looksAt := ⟨s_X9_looksAt_0 d hG, s_X9_looksAt_1 d hG, s_X9_looksAt_2 d hG, s_X9_looksAt_3 d hG, trivial⟩
def q_X9_looksAt_0 : List (Nat × Nat) := [(292, zk102), (321, zk3), (322, zk116)]
noncomputable def al_X9_looksAt_0 : zAq := [(none, [(292, zk105), (321, zk4), (322, zk117)])]
noncomputable def fm_X9_looksAt_0 : List zFm := [(0, [], (fun vs => [.inr (.ref 292), .inl 8589934591, .inl 8589934591, .inl 8589934591, .inl 8589934591]), (fun vs => zP q_X9_looksAt_0), (fun vs => Nat.sub (Nat.add 0 0) 0))]
def bf_X9_looksAt_0 : List Nat := []
theorem r_X9_looksAt_0_0 : zbox [] (fun vs => zFrun (zpost (zAlq al_X9_looksAt_0)) 1000 t_X9_looksAt fm_X9_looksAt_0 bf_X9_looksAt_0 (0, vs)) = true := by decide +kernel
set_option maxRecDepth 100000 in
theorem x_X9_looksAt_0 (d : Nat) (hG : zGood gh) : zS l G gh (d + 4) (zpost (zAlq al_X9_looksAt_0)) n_X9_looksAt (zn 0 p_X9_looksAt 0) (zwc (0, [.inr (.ref 292), .inl 8589934591, .inl 8589934591, .inl 8589934591, .inl 8589934591], zP q_X9_looksAt_0) 0) := zentry (tt_X9_looksAt d hG) fm_X9_looksAt_0 bf_X9_looksAt_0 1000 (by decide +kernel) rfl ⟨Nat.zero_lt_succ _, trivial⟩ (fun f hf => match f, hf with
  | 0, _ => fun vs hv => (zbox_t r_X9_looksAt_0_0) vs hv
  | f + 1, h => absurd (show f + 1 < 1 from h) (Nat.not_lt.mpr (Nat.le_add_left 1 f)))
noncomputable def gs_X9_looksAt_0 : zMt := zgq true zUN 6 [.inr (.ref 292), .inl 8589934591, .inl 8589934591, .inl 8589934591, .inl 8589934591] q_X9_looksAt_0 al_X9_looksAt_0
set_option maxRecDepth 100000 in
theorem cs_X9_looksAt_0 (d : Nat) (hG : zGood gh) : zC l G gh (d + 4) n_X9_looksAt gs_X9_looksAt_0 := zgq_ok zGood_ok (pcs := p_X9_looksAt) (by decide) rfl rfl (fun a ha => by simp only [al_X9_looksAt_0, List.mem_cons, List.not_mem_nil, or_false] at ha; rcases ha with rfl <;> decide +kernel) (fun gh hG => x_X9_looksAt_0 d hG) (by decide +kernel) hG
noncomputable def gs_X9_looksAt : zMt := gs_X9_looksAt_0
theorem cs_X9_looksAt (d : Nat) (hG : zGood gh) : zC l G gh (d + 4) n_X9_looksAt gs_X9_looksAt := (cs_X9_looksAt_0 d hG)
def n_X9_interestOf : qMn := (yX9_interestOf, cX9_interestOf, 4, (some Jvm.ClassFile.FieldType.int), 0, 0)
theorem to_X9_interestOf : qTo n_X9_interestOf 2 := ⟨g1521, g110, ⟨by decide, by decide, by decide +kernel⟩, by decide⟩
def p_X9_interestOf : List Nat := [0]
noncomputable def b_X9_interestOf_0 : zBl := fun jp K => oAld 0 <| oIld 2 <| oCv 9 1 gs_X9_heatAt <| oIst 3 <| oAld 0 <| oIld 2 <| oCv 9 1 gs_X9_looks <| oAld 0 <| oGetR 9 45 <| oInt 2147483650 <| oIld 3 <| oXast 10 zid <| oAld 0 <| oGetR 9 45 <| oInt 2147483654 <| oIld 1 <| oXast 10 zid <| oAld 0 <| oInt 2147483652 <| oInt 2147483648 <| oCv 9 2 gs_X9_lawTells <| oInt 2147483648 <| oInt 2147483747 <| oCs 3 f_X9_held <| oIret K
theorem s_X9_interestOf_0 (d : Nat) (hG : zGood gh) : zPb l G gh (d + 4) n_X9_interestOf p_X9_interestOf 0 b_X9_interestOf_0 := fun K jp hj =>
    z_aload_n (n := 0) (i := 0) (zd (i := .aload_n 0) (n := 1) (by decide +kernel)) rfl <|
    z_iload_n (n := 2) (i := 2) (zd (i := .iload_n 2) (n := 1) (by decide +kernel)) rfl <|
    z_callV (idx := 327) (ci := 9) (N := n_X9_heatAt) (zd (i := .invokevirtual 327) (n := 3) (by decide +kernel)) to_X9_heatAt g1461 g1463 g71 (by decide +kernel) rfl rfl rfl (cs_X9_heatAt (l := l) (G := G) (gh := gh) (d) hG) <|
    z_istore_n (n := 3) (i := 3) (zd (i := .istore_n 3) (n := 1) (by decide +kernel)) rfl (by decide +kernel) <|
    z_aload_n (n := 0) (i := 0) (zd (i := .aload_n 0) (n := 1) (by decide +kernel)) rfl <|
    z_iload_n (n := 2) (i := 2) (zd (i := .iload_n 2) (n := 1) (by decide +kernel)) rfl <|
    z_callV (idx := 318) (ci := 9) (N := n_X9_looks) (zd (i := .invokevirtual 318) (n := 3) (by decide +kernel)) to_X9_looks g1465 g1467 g72 (by decide +kernel) rfl rfl rfl (cs_X9_looks (l := l) (G := G) (gh := gh) (d + 2)) <|
    z_aload_n (n := 0) (i := 0) (zd (i := .aload_n 0) (n := 1) (by decide +kernel)) rfl <|
    z_getR (ci := 9) (j := 45) (idx := 104) (zd (i := .getfield 104) (n := 3) (by decide +kernel)) (by decide +kernel) (by decide +kernel) rfl g1173 <|
    z_iconst (n := 2) (zd (i := .iconst (2)) (n := 1) (by decide +kernel)) (by decide +kernel) <|
    z_iload_n (n := 3) (i := 3) (zd (i := .iload_n 3) (n := 1) (by decide +kernel)) rfl <|
    z_iast (zd (i := .iastore) (n := 1) (by decide +kernel)) <|
    z_aload_n (n := 0) (i := 0) (zd (i := .aload_n 0) (n := 1) (by decide +kernel)) rfl <|
    z_getR (ci := 9) (j := 45) (idx := 104) (zd (i := .getfield 104) (n := 3) (by decide +kernel)) (by decide +kernel) (by decide +kernel) rfl g1173 <|
    z_bipush (n := 6) (zd (i := .bipush (6)) (n := 2) (by decide +kernel)) (by decide +kernel) <|
    z_iload_n (n := 1) (i := 1) (zd (i := .iload_n 1) (n := 1) (by decide +kernel)) rfl <|
    z_iast (zd (i := .iastore) (n := 1) (by decide +kernel)) <|
    z_aload_n (n := 0) (i := 0) (zd (i := .aload_n 0) (n := 1) (by decide +kernel)) rfl <|
    z_iconst (n := 4) (zd (i := .iconst (4)) (n := 1) (by decide +kernel)) (by decide +kernel) <|
    z_iconst (n := 0) (zd (i := .iconst (0)) (n := 1) (by decide +kernel)) (by decide +kernel) <|
    z_callV (idx := 321) (ci := 9) (N := n_X9_lawTells) (zd (i := .invokevirtual 321) (n := 3) (by decide +kernel)) to_X9_lawTells g1469 g1471 g73 (by decide +kernel) rfl rfl rfl (cs_X9_lawTells (l := l) (G := G) (gh := gh) (d + 1) hG) <|
    z_iconst (n := 0) (zd (i := .iconst (0)) (n := 1) (by decide +kernel)) (by decide +kernel) <|
    z_bipush (n := 99) (zd (i := .bipush (99)) (n := 2) (by decide +kernel)) (by decide +kernel) <|
    z_callS (idx := 324) (N := n_X9_held) (zd (i := .invokestatic 324) (n := 3) (by decide +kernel)) to_X9_held g1477 g1478 rfl rfl (c_X9_held (l := l) (G := G) (gh := gh) (d + 2)) <|
    z_iret (zd (i := .ireturn) (n := 1) (by decide +kernel)) rfl
noncomputable def t_X9_interestOf : List zBl := [b_X9_interestOf_0]
theorem tt_X9_interestOf (d : Nat) (hG : zGood gh) : zT (zPb l G gh (d + 4) n_X9_interestOf p_X9_interestOf) t_X9_interestOf p_X9_interestOf := ⟨s_X9_interestOf_0 d hG, trivial⟩
def q_X9_interestOf_0 : List (Nat × Nat) := [(292, zk102), (321, zk3), (322, zk116)]
noncomputable def al_X9_interestOf_0 : zAq := [(some (.inl 9223372043297226851), [(292, zk105), (321, zk4), (322, zk117)])]
noncomputable def fm_X9_interestOf_0 : List zFm := [(0, [], (fun vs => [.inr (.ref 292), .inl 8589934591, .inl 8589934591]), (fun vs => zP q_X9_interestOf_0), (fun vs => Nat.sub (Nat.add 0 0) 0))]
def bf_X9_interestOf_0 : List Nat := []
theorem r_X9_interestOf_0_0 : zbox [] (fun vs => zFrun (zpost (zAlq al_X9_interestOf_0)) 1000 t_X9_interestOf fm_X9_interestOf_0 bf_X9_interestOf_0 (0, vs)) = true := by decide +kernel
set_option maxRecDepth 100000 in
theorem x_X9_interestOf_0 (d : Nat) (hG : zGood gh) : zS l G gh (d + 4) (zpost (zAlq al_X9_interestOf_0)) n_X9_interestOf (zn 0 p_X9_interestOf 0) (zwc (0, [.inr (.ref 292), .inl 8589934591, .inl 8589934591], zP q_X9_interestOf_0) 0) := zentry (tt_X9_interestOf d hG) fm_X9_interestOf_0 bf_X9_interestOf_0 1000 (by decide +kernel) rfl ⟨Nat.zero_lt_succ _, trivial⟩ (fun f hf => match f, hf with
  | 0, _ => fun vs hv => (zbox_t r_X9_interestOf_0_0) vs hv
  | f + 1, h => absurd (show f + 1 < 1 from h) (Nat.not_lt.mpr (Nat.le_add_left 1 f)))
noncomputable def gs_X9_interestOf_0 : zMt := zgq true zUN 4 [.inr (.ref 292), .inl 8589934591, .inl 8589934591] q_X9_interestOf_0 al_X9_interestOf_0
set_option maxRecDepth 100000 in
theorem cs_X9_interestOf_0 (d : Nat) (hG : zGood gh) : zC l G gh (d + 4) n_X9_interestOf gs_X9_interestOf_0 := zgq_ok zGood_ok (pcs := p_X9_interestOf) (by decide) rfl rfl (fun a ha => by simp only [al_X9_interestOf_0, List.mem_cons, List.not_mem_nil, or_false] at ha; rcases ha with rfl <;> decide +kernel) (fun gh hG => x_X9_interestOf_0 d hG) (by decide +kernel) hG
noncomputable def gs_X9_interestOf : zMt := gs_X9_interestOf_0
theorem cs_X9_interestOf (d : Nat) (hG : zGood gh) : zC l G gh (d + 4) n_X9_interestOf gs_X9_interestOf := (cs_X9_interestOf_0 d hG)
def n_X9_heatIn : qMn := (yX9_heatIn, cX9_heatIn, 2, (some Jvm.ClassFile.FieldType.int), 0, 0)
theorem to_X9_heatIn : qTo n_X9_heatIn 1 := ⟨g1664, g110, ⟨by decide, by decide, by decide +kernel⟩, by decide⟩
def p_X9_heatIn : List Nat := [0, 7, 23, 24]
noncomputable def b_X9_heatIn_0 : zBl := fun jp K => oIld 1 <| oCs 1 f_X9_isLong <| oIf zeq zne (jp 2) (jp 1)
theorem s_X9_heatIn_0 (d : Nat) (hG : zGood gh) : zPb l G gh (d + 4) n_X9_heatIn p_X9_heatIn 0 b_X9_heatIn_0 := fun K jp hj =>
    z_iload_n (n := 1) (i := 1) (zd (i := .iload_n 1) (n := 1) (by decide +kernel)) rfl <|
    z_callS (idx := 393) (N := n_X9_isLong) (zd (i := .invokestatic 393) (n := 3) (by decide +kernel)) to_X9_isLong g1543 g1544 rfl rfl (c_X9_isLong (l := l) (G := G) (gh := gh) (d + 1)) <|
    z_if_eq (off := 19) (tgt := 23) (zd (i := .ifCond .eq (19)) (n := 3) (by decide +kernel)) (by decide +kernel) (zj (hj 2) (by decide +kernel)) (zj (hj 1) (by decide +kernel))
noncomputable def b_X9_heatIn_1 : zBl := fun jp K => oAld 0 <| oAld 0 <| oGetR 9 48 <| oInt 2147483744 <| oXald 10 <| oIld 1 <| oB2 zadd <| oCv 9 1 gs_X9_heatAt <| jp 3
theorem s_X9_heatIn_1 (d : Nat) (hG : zGood gh) : zPb l G gh (d + 4) n_X9_heatIn p_X9_heatIn 7 b_X9_heatIn_1 := fun K jp hj =>
    z_aload_n (n := 0) (i := 0) (zd (i := .aload_n 0) (n := 1) (by decide +kernel)) rfl <|
    z_aload_n (n := 0) (i := 0) (zd (i := .aload_n 0) (n := 1) (by decide +kernel)) rfl <|
    z_getR (ci := 9) (j := 48) (idx := 110) (zd (i := .getfield 110) (n := 3) (by decide +kernel)) (by decide +kernel) (by decide +kernel) rfl g1176 <|
    z_bipush (n := 96) (zd (i := .bipush (96)) (n := 2) (by decide +kernel)) (by decide +kernel) <|
    z_iald (zd (i := .iaload) (n := 1) (by decide +kernel)) <|
    z_iload_n (n := 1) (i := 1) (zd (i := .iload_n 1) (n := 1) (by decide +kernel)) rfl <|
    z_iadd (zd (i := .iadd) (n := 1) (by decide +kernel)) <|
    z_callV (idx := 327) (ci := 9) (N := n_X9_heatAt) (zd (i := .invokevirtual 327) (n := 3) (by decide +kernel)) to_X9_heatAt g1461 g1463 g71 (by decide +kernel) rfl rfl rfl (cs_X9_heatAt (l := l) (G := G) (gh := gh) (d) hG) <|
    z_goto (off := 4) (tgt := 24) (zd (i := .goto (4)) (n := 3) (by decide +kernel)) (by decide +kernel) (zj (hj 3) (by decide +kernel))
noncomputable def b_X9_heatIn_2 : zBl := fun jp K => oInt 2147483647 <| jp 3
theorem s_X9_heatIn_2 (d : Nat) (hG : zGood gh) : zPb l G gh (d + 4) n_X9_heatIn p_X9_heatIn 23 b_X9_heatIn_2 := fun K jp hj =>
    z_iconst (n := -1) (zd (i := .iconst (-1)) (n := 1) (by decide +kernel)) (by decide +kernel) <|
    (zj (hj 3) (by decide +kernel))
noncomputable def b_X9_heatIn_3 : zBl := fun jp K => oIret K
theorem s_X9_heatIn_3 (d : Nat) (hG : zGood gh) : zPb l G gh (d + 4) n_X9_heatIn p_X9_heatIn 24 b_X9_heatIn_3 := fun K jp hj =>
    z_iret (zd (i := .ireturn) (n := 1) (by decide +kernel)) rfl
noncomputable def t_X9_heatIn : List zBl := [b_X9_heatIn_0, b_X9_heatIn_1, b_X9_heatIn_2, b_X9_heatIn_3]
theorem tt_X9_heatIn (d : Nat) (hG : zGood gh) : zT (zPb l G gh (d + 4) n_X9_heatIn p_X9_heatIn) t_X9_heatIn p_X9_heatIn := ⟨s_X9_heatIn_0 d hG, s_X9_heatIn_1 d hG, s_X9_heatIn_2 d hG, s_X9_heatIn_3 d hG, trivial⟩
def q_X9_heatIn_0 : List (Nat × Nat) := [(292, zk102), (321, zk3), (322, zk116), (323, zk104)]
noncomputable def al_X9_heatIn_0 : zAq := [(some (.inl 9223372039002259555), [(292, zk105), (321, zk4), (322, zk117), (323, zk104)])]
noncomputable def fm_X9_heatIn_0 : List zFm := [(0, [], (fun vs => [.inr (.ref 292), .inl 8589934591]), (fun vs => zP q_X9_heatIn_0), (fun vs => Nat.sub (Nat.add 0 0) 0))]
def bf_X9_heatIn_0 : List Nat := []
theorem r_X9_heatIn_0_0 : zbox [] (fun vs => zFrun (zpost (zAlq al_X9_heatIn_0)) 1000 t_X9_heatIn fm_X9_heatIn_0 bf_X9_heatIn_0 (0, vs)) = true := by decide +kernel
set_option maxRecDepth 100000 in
theorem x_X9_heatIn_0 (d : Nat) (hG : zGood gh) : zS l G gh (d + 4) (zpost (zAlq al_X9_heatIn_0)) n_X9_heatIn (zn 0 p_X9_heatIn 0) (zwc (0, [.inr (.ref 292), .inl 8589934591], zP q_X9_heatIn_0) 0) := zentry (tt_X9_heatIn d hG) fm_X9_heatIn_0 bf_X9_heatIn_0 1000 (by decide +kernel) rfl ⟨Nat.zero_lt_succ _, trivial⟩ (fun f hf => match f, hf with
  | 0, _ => fun vs hv => (zbox_t r_X9_heatIn_0_0) vs hv
  | f + 1, h => absurd (show f + 1 < 1 from h) (Nat.not_lt.mpr (Nat.le_add_left 1 f)))
noncomputable def gs_X9_heatIn_0 : zMt := zgq true zUN 2 [.inr (.ref 292), .inl 8589934591] q_X9_heatIn_0 al_X9_heatIn_0
set_option maxRecDepth 100000 in
theorem cs_X9_heatIn_0 (d : Nat) (hG : zGood gh) : zC l G gh (d + 4) n_X9_heatIn gs_X9_heatIn_0 := zgq_ok zGood_ok (pcs := p_X9_heatIn) (by decide) rfl rfl (fun a ha => by simp only [al_X9_heatIn_0, List.mem_cons, List.not_mem_nil, or_false] at ha; rcases ha with rfl <;> decide +kernel) (fun gh hG => x_X9_heatIn_0 d hG) (by decide +kernel) hG
noncomputable def gs_X9_heatIn : zMt := gs_X9_heatIn_0
theorem cs_X9_heatIn (d : Nat) (hG : zGood gh) : zC l G gh (d + 4) n_X9_heatIn gs_X9_heatIn := (cs_X9_heatIn_0 d hG)
def n_X9_isSeen : qMn := (yX9_isSeen, cX9_isSeen, 5, (some Jvm.ClassFile.FieldType.boolean), 0, 0)
theorem to_X9_isSeen : qTo n_X9_isSeen 4 := ⟨g1456, g110, ⟨by decide, by decide, by decide +kernel⟩, by decide⟩
def p_X9_isSeen : List Nat := [0, 30, 34, 35]
noncomputable def b_X9_isSeen_0 : zBl := fun jp K => oAld 0 <| oIld 1 <| oIld 2 <| oIld 3 <| oIld 4 <| oCv 9 4 gs_X9_looksAt <| oAld 0 <| oInt 2147483649 <| oAld 0 <| oGetR 9 45 <| oInt 2147483650 <| oXald 10 <| oAld 0 <| oGetR 9 45 <| oInt 2147483651 <| oXald 10 <| oB2 zsub <| oCv 9 2 gs_X9_lawTells <| oIf zle zgt (jp 2) (jp 1)
theorem s_X9_isSeen_0 (d : Nat) (hG : zGood gh) : zPb l G gh (d + 5) n_X9_isSeen p_X9_isSeen 0 b_X9_isSeen_0 := fun K jp hj =>
    z_aload_n (n := 0) (i := 0) (zd (i := .aload_n 0) (n := 1) (by decide +kernel)) rfl <|
    z_iload_n (n := 1) (i := 1) (zd (i := .iload_n 1) (n := 1) (by decide +kernel)) rfl <|
    z_iload_n (n := 2) (i := 2) (zd (i := .iload_n 2) (n := 1) (by decide +kernel)) rfl <|
    z_iload_n (n := 3) (i := 3) (zd (i := .iload_n 3) (n := 1) (by decide +kernel)) rfl <|
    z_iload (i := 4) (zd (i := .iload 4) (n := 2) (by decide +kernel)) <|
    z_callV (idx := 333) (ci := 9) (N := n_X9_looksAt) (zd (i := .invokevirtual 333) (n := 3) (by decide +kernel)) to_X9_looksAt g1457 g1459 g70 (by decide +kernel) rfl rfl rfl (cs_X9_looksAt (l := l) (G := G) (gh := gh) (d) hG) <|
    z_aload_n (n := 0) (i := 0) (zd (i := .aload_n 0) (n := 1) (by decide +kernel)) rfl <|
    z_iconst (n := 1) (zd (i := .iconst (1)) (n := 1) (by decide +kernel)) (by decide +kernel) <|
    z_aload_n (n := 0) (i := 0) (zd (i := .aload_n 0) (n := 1) (by decide +kernel)) rfl <|
    z_getR (ci := 9) (j := 45) (idx := 104) (zd (i := .getfield 104) (n := 3) (by decide +kernel)) (by decide +kernel) (by decide +kernel) rfl g1173 <|
    z_iconst (n := 2) (zd (i := .iconst (2)) (n := 1) (by decide +kernel)) (by decide +kernel) <|
    z_iald (zd (i := .iaload) (n := 1) (by decide +kernel)) <|
    z_aload_n (n := 0) (i := 0) (zd (i := .aload_n 0) (n := 1) (by decide +kernel)) rfl <|
    z_getR (ci := 9) (j := 45) (idx := 104) (zd (i := .getfield 104) (n := 3) (by decide +kernel)) (by decide +kernel) (by decide +kernel) rfl g1173 <|
    z_iconst (n := 3) (zd (i := .iconst (3)) (n := 1) (by decide +kernel)) (by decide +kernel) <|
    z_iald (zd (i := .iaload) (n := 1) (by decide +kernel)) <|
    z_isub (zd (i := .isub) (n := 1) (by decide +kernel)) <|
    z_callV (idx := 321) (ci := 9) (N := n_X9_lawTells) (zd (i := .invokevirtual 321) (n := 3) (by decide +kernel)) to_X9_lawTells g1469 g1471 g73 (by decide +kernel) rfl rfl rfl (cs_X9_lawTells (l := l) (G := G) (gh := gh) (d + 2) hG) <|
    z_if_le (off := 7) (tgt := 34) (zd (i := .ifCond .le (7)) (n := 3) (by decide +kernel)) (by decide +kernel) (zj (hj 2) (by decide +kernel)) (zj (hj 1) (by decide +kernel))
noncomputable def b_X9_isSeen_1 : zBl := fun jp K => oInt 2147483649 <| jp 3
theorem s_X9_isSeen_1 (d : Nat) (hG : zGood gh) : zPb l G gh (d + 5) n_X9_isSeen p_X9_isSeen 30 b_X9_isSeen_1 := fun K jp hj =>
    z_iconst (n := 1) (zd (i := .iconst (1)) (n := 1) (by decide +kernel)) (by decide +kernel) <|
    z_goto (off := 4) (tgt := 35) (zd (i := .goto (4)) (n := 3) (by decide +kernel)) (by decide +kernel) (zj (hj 3) (by decide +kernel))
noncomputable def b_X9_isSeen_2 : zBl := fun jp K => oInt 2147483648 <| jp 3
theorem s_X9_isSeen_2 (d : Nat) (hG : zGood gh) : zPb l G gh (d + 5) n_X9_isSeen p_X9_isSeen 34 b_X9_isSeen_2 := fun K jp hj =>
    z_iconst (n := 0) (zd (i := .iconst (0)) (n := 1) (by decide +kernel)) (by decide +kernel) <|
    (zj (hj 3) (by decide +kernel))
noncomputable def b_X9_isSeen_3 : zBl := fun jp K => oZret K
theorem s_X9_isSeen_3 (d : Nat) (hG : zGood gh) : zPb l G gh (d + 5) n_X9_isSeen p_X9_isSeen 35 b_X9_isSeen_3 := fun K jp hj =>
    z_zret (zd (i := .ireturn) (n := 1) (by decide +kernel)) rfl
noncomputable def t_X9_isSeen : List zBl := [b_X9_isSeen_0, b_X9_isSeen_1, b_X9_isSeen_2, b_X9_isSeen_3]
theorem tt_X9_isSeen (d : Nat) (hG : zGood gh) : zT (zPb l G gh (d + 5) n_X9_isSeen p_X9_isSeen) t_X9_isSeen p_X9_isSeen := ⟨s_X9_isSeen_0 d hG, s_X9_isSeen_1 d hG, s_X9_isSeen_2 d hG, s_X9_isSeen_3 d hG, trivial⟩
def q_X9_isSeen_0 : List (Nat × Nat) := [(292, zk102), (321, zk3), (322, zk116)]
noncomputable def al_X9_isSeen_0 : zAq := [(some (.inl 9223372043297226753), [(292, zk105), (321, zk4), (322, zk117)])]
noncomputable def fm_X9_isSeen_0 : List zFm := [(0, [], (fun vs => [.inr (.ref 292), .inl 8589934591, .inl 8589934591, .inl 8589934591, .inl 8589934591]), (fun vs => zP q_X9_isSeen_0), (fun vs => Nat.sub (Nat.add 0 0) 0))]
def bf_X9_isSeen_0 : List Nat := []
theorem r_X9_isSeen_0_0 : zbox [] (fun vs => zFrun (zpost (zAlq al_X9_isSeen_0)) 1000 t_X9_isSeen fm_X9_isSeen_0 bf_X9_isSeen_0 (0, vs)) = true := by decide +kernel
set_option maxRecDepth 100000 in
theorem x_X9_isSeen_0 (d : Nat) (hG : zGood gh) : zS l G gh (d + 5) (zpost (zAlq al_X9_isSeen_0)) n_X9_isSeen (zn 0 p_X9_isSeen 0) (zwc (0, [.inr (.ref 292), .inl 8589934591, .inl 8589934591, .inl 8589934591, .inl 8589934591], zP q_X9_isSeen_0) 0) := zentry (tt_X9_isSeen d hG) fm_X9_isSeen_0 bf_X9_isSeen_0 1000 (by decide +kernel) rfl ⟨Nat.zero_lt_succ _, trivial⟩ (fun f hf => match f, hf with
  | 0, _ => fun vs hv => (zbox_t r_X9_isSeen_0_0) vs hv
  | f + 1, h => absurd (show f + 1 < 1 from h) (Nat.not_lt.mpr (Nat.le_add_left 1 f)))
noncomputable def gs_X9_isSeen_0 : zMt := zgq true zUN 5 [.inr (.ref 292), .inl 8589934591, .inl 8589934591, .inl 8589934591, .inl 8589934591] q_X9_isSeen_0 al_X9_isSeen_0
set_option maxRecDepth 100000 in
theorem cs_X9_isSeen_0 (d : Nat) (hG : zGood gh) : zC l G gh (d + 5) n_X9_isSeen gs_X9_isSeen_0 := zgq_ok zGood_ok (pcs := p_X9_isSeen) (by decide) rfl rfl (fun a ha => by simp only [al_X9_isSeen_0, List.mem_cons, List.not_mem_nil, or_false] at ha; rcases ha with rfl <;> decide +kernel) (fun gh hG => x_X9_isSeen_0 d hG) (by decide +kernel) hG
noncomputable def gs_X9_isSeen : zMt := gs_X9_isSeen_0
theorem cs_X9_isSeen (d : Nat) (hG : zGood gh) : zC l G gh (d + 5) n_X9_isSeen gs_X9_isSeen := (cs_X9_isSeen_0 d hG)
end
