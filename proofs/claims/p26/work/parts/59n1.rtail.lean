section
variable {l : Launch} {G : qG} {gh : zGh}
def p_X8_read : List Nat := [0, 23, 42, 61]
noncomputable def b_X8_read_2 : zBl := fun jp K => oAld 0 <| oAld 0 <| oGetR 8 1 <| oAld 0 <| oGetR 8 12 <| oCv 1 1 f_X1_handOver <| oPutR 8 12 <| oAld 0 <| oCv 8 0 f_X8_beginAnew <| jp 3
theorem s_X8_read_2 (d : Nat) : zPb l G gh (d + 26) n_X8_read p_X8_read 42 b_X8_read_2 := fun K jp hj =>
    z_aload_n (n := 0) (i := 0) (zd (i := .aload_n 0) (n := 1) (by decide +kernel)) rfl <|
    z_aload_n (n := 0) (i := 0) (zd (i := .aload_n 0) (n := 1) (by decide +kernel)) rfl <|
    z_getR (ci := 8) (j := 1) (idx := 19) (zd (i := .getfield 19) (n := 3) (by decide +kernel)) (by decide +kernel) (by decide +kernel) rfl g453 <|
    z_aload_n (n := 0) (i := 0) (zd (i := .aload_n 0) (n := 1) (by decide +kernel)) rfl <|
    z_getR (ci := 8) (j := 12) (idx := 71) (zd (i := .getfield 71) (n := 3) (by decide +kernel)) (by decide +kernel) (by decide +kernel) rfl g464 <|
    z_callV (idx := 100) (ci := 1) (N := n_X1_handOver) (zd (i := .invokevirtual 100) (n := 3) (by decide +kernel)) to_X1_handOver g676 g677 g678 (by decide +kernel) rfl rfl rfl (c_X1_handOver (l := l) (G := G) (gh := gh) (d + 24)) <|
    z_putR (ci := 8) (j := 12) (idx := 71) (zd (i := .putfield 71) (n := 3) (by decide +kernel)) (by decide +kernel) (by decide +kernel) (fun r => by cases r <;> rfl) (fun r => by cases r <;> rfl) rfl g464 (Or.inl rfl) <|
    z_aload_n (n := 0) (i := 0) (zd (i := .aload_n 0) (n := 1) (by decide +kernel)) rfl <|
    z_callV (idx := 104) (ci := 8) (N := n_X8_beginAnew) (zd (i := .invokevirtual 104) (n := 3) (by decide +kernel)) to_X8_beginAnew g680 g682 g16 (by decide +kernel) rfl rfl rfl (c_X8_beginAnew (l := l) (G := G) (gh := gh) (d + 21)) <|
    (zj (hj 3) (by decide +kernel))
noncomputable def b_X8_read_3 : zBl := fun jp K => oIld 1 <| oIret K
theorem s_X8_read_3 (d : Nat) : zPb l G gh (d + 26) n_X8_read p_X8_read 61 b_X8_read_3 := fun K jp hj =>
    z_iload_n (n := 1) (i := 1) (zd (i := .iload_n 1) (n := 1) (by decide +kernel)) rfl <|
    z_iret (zd (i := .ireturn) (n := 1) (by decide +kernel)) rfl
end
