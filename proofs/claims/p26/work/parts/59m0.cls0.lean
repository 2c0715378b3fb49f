section
variable {l : Launch} {G : qG} {gh : zGh}
def p_X4_end : List Nat := [0]
noncomputable def b_X4_end_0 : zBl := fun jp K => oAld 0 <| oGetR 4 5 <| oIld 1 <| oInt 2147483648 <| oXast 10 zid <| oAld 0 <| oGetR 4 6 <| oIld 1 <| oInt 2147483648 <| oXast 10 zid <| oVret K
theorem s_X4_end_0 (d : Nat) : zPb l G gh (d + 1) n_X4_end p_X4_end 0 b_X4_end_0 := fun K jp hj =>
    z_aload_n (n := 0) (i := 0) (zd (i := .aload_n 0) (n := 1) (by decide +kernel)) rfl <|
    z_getR (ci := 4) (j := 5) (idx := 28) (zd (i := .getfield 28) (n := 3) (by decide +kernel)) (by decide +kernel) (by decide +kernel) rfl g382 <|
    z_iload_n (n := 1) (i := 1) (zd (i := .iload_n 1) (n := 1) (by decide +kernel)) rfl <|
    z_iconst (n := 0) (zd (i := .iconst (0)) (n := 1) (by decide +kernel)) (by decide +kernel) <|
    z_iast (zd (i := .iastore) (n := 1) (by decide +kernel)) <|
    z_aload_n (n := 0) (i := 0) (zd (i := .aload_n 0) (n := 1) (by decide +kernel)) rfl <|
    z_getR (ci := 4) (j := 6) (idx := 31) (zd (i := .getfield 31) (n := 3) (by decide +kernel)) (by decide +kernel) (by decide +kernel) rfl g385 <|
    z_iload_n (n := 1) (i := 1) (zd (i := .iload_n 1) (n := 1) (by decide +kernel)) rfl <|
    z_iconst (n := 0) (zd (i := .iconst (0)) (n := 1) (by decide +kernel)) (by decide +kernel) <|
    z_iast (zd (i := .iastore) (n := 1) (by decide +kernel)) <|
    z_vret (zd (i := .return_) (n := 1) (by decide +kernel)) rfl
noncomputable def t_X4_end : List zBl := [b_X4_end_0]
theorem tt_X4_end (d : Nat) : zT (zPb l G gh (d + 1) n_X4_end p_X4_end) t_X4_end p_X4_end := ⟨s_X4_end_0 d, trivial⟩
noncomputable def f_X4_end : zMt := zmet 2 t_X4_end
theorem c_X4_end (d : Nat) : zC l G gh (d + 1) n_X4_end f_X4_end := zmet_ok (pcs := p_X4_end) (by decide) rfl rfl (tt_X4_end d)
def p_X3_clear : List Nat := [0]
noncomputable def b_X3_clear_0 : zBl := fun jp K => oAld 0 <| oInt 2147483648 <| oPutI 3 2 <| oVret K
theorem s_X3_clear_0 (d : Nat) : zPb l G gh (d + 1) n_X3_clear p_X3_clear 0 b_X3_clear_0 := fun K jp hj =>
    z_aload_n (n := 0) (i := 0) (zd (i := .aload_n 0) (n := 1) (by decide +kernel)) rfl <|
    z_iconst (n := 0) (zd (i := .iconst (0)) (n := 1) (by decide +kernel)) (by decide +kernel) <|
    z_putI (ci := 3) (j := 2) (idx := 19) (zd (i := .putfield 19) (n := 3) (by decide +kernel)) (by decide +kernel) (by decide +kernel) rfl g414 (Or.inl rfl) <|
    z_vret (zd (i := .return_) (n := 1) (by decide +kernel)) rfl
noncomputable def t_X3_clear : List zBl := [b_X3_clear_0]
theorem tt_X3_clear (d : Nat) : zT (zPb l G gh (d + 1) n_X3_clear p_X3_clear) t_X3_clear p_X3_clear := ⟨s_X3_clear_0 d, trivial⟩
noncomputable def f_X3_clear : zMt := zmet 1 t_X3_clear
theorem c_X3_clear (d : Nat) : zC l G gh (d + 1) n_X3_clear f_X3_clear := zmet_ok (pcs := p_X3_clear) (by decide) rfl rfl (tt_X3_clear d)
def p_X1_handOver : List Nat := [0]
noncomputable def b_X1_handOver_0 : zBl := fun jp K => oAld 0 <| oGetR 1 1 <| oAst 2 <| oAld 0 <| oAld 1 <| oPutR 1 1 <| oAld 2 <| oAret K
theorem s_X1_handOver_0 (d : Nat) : zPb l G gh (d + 1) n_X1_handOver p_X1_handOver 0 b_X1_handOver_0 := fun K jp hj =>
    z_aload_n (n := 0) (i := 0) (zd (i := .aload_n 0) (n := 1) (by decide +kernel)) rfl <|
    z_getR (ci := 1) (j := 1) (idx := 21) (zd (i := .getfield 21) (n := 3) (by decide +kernel)) (by decide +kernel) (by decide +kernel) rfl g336 <|
    z_astore_n (n := 2) (i := 2) (zd (i := .astore_n 2) (n := 1) (by decide +kernel)) rfl (by decide +kernel) <|
    z_aload_n (n := 0) (i := 0) (zd (i := .aload_n 0) (n := 1) (by decide +kernel)) rfl <|
    z_aload_n (n := 1) (i := 1) (zd (i := .aload_n 1) (n := 1) (by decide +kernel)) rfl <|
    z_putR (ci := 1) (j := 1) (idx := 21) (zd (i := .putfield 21) (n := 3) (by decide +kernel)) (by decide +kernel) (by decide +kernel) (fun r => by cases r <;> rfl) (fun r => by cases r <;> rfl) rfl g336 (Or.inl rfl) <|
    z_aload_n (n := 2) (i := 2) (zd (i := .aload_n 2) (n := 1) (by decide +kernel)) rfl <|
    z_aret (zd (i := .areturn) (n := 1) (by decide +kernel)) rfl
noncomputable def t_X1_handOver : List zBl := [b_X1_handOver_0]
theorem tt_X1_handOver (d : Nat) : zT (zPb l G gh (d + 1) n_X1_handOver p_X1_handOver) t_X1_handOver p_X1_handOver := ⟨s_X1_handOver_0 d, trivial⟩
noncomputable def f_X1_handOver : zMt := zmet 3 t_X1_handOver
theorem c_X1_handOver (d : Nat) : zC l G gh (d + 1) n_X1_handOver f_X1_handOver := zmet_ok (pcs := p_X1_handOver) (by decide) rfl rfl (tt_X1_handOver d)
end
