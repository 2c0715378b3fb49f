theorem zj {l : Launch} {G : qG} {gh : zGh} {d : Nat} {K : zKr} {M : qMn} {p q : Nat} {f : zK} (h : zS l G gh d K M p f) (e : p = q) : zS l G gh d K M q f := e ▸ h
def zdec (c : ByteArray) (pc : Nat) (i : Instr) (n : Nat) : Bool := decide (decode c pc = .ok (i, n))
theorem zd {c : ByteArray} {pc : Nat} {i : Instr} {n : Nat} (h : zdec c pc i n = true) : decode c pc = .ok (i, n) := of_decide_eq_true h
theorem g98 : Cond.initialized "MirageLoans$Tape" ∈ gw := gw_at 98 (by decide +kernel) (by decide +kernel)
theorem g129 : Cond.fieldLink "MirageLoans$Tape" 11 "MirageLoans$Tape" "bytes" "[B" ∈ gw := gw_at 129 (by decide +kernel) (by decide +kernel)
theorem g130 : Cond.fieldLink "MirageLoans$Tape" 15 "MirageLoans$Tape" "size" "I" ∈ gw := gw_at 130 (by decide +kernel) (by decide +kernel)
set_option maxRecDepth 100000 in
theorem g502 : Cond.code yX5_hasRoom prog_7_method_2_code 2 (some Jvm.ClassFile.FieldType.boolean) ∈ gw := gw_at 502 rfl (by decide +kernel)
set_option maxRecDepth 100000 in
theorem g506 : Cond.code yX5_putWord prog_7_method_3_code 3 none ∈ gw := gw_at 506 rfl (by decide +kernel)
set_option maxRecDepth 100000 in
theorem g535 : Cond.code yX5_byteAt prog_7_method_5_code 2 (some Jvm.ClassFile.FieldType.int) ∈ gw := gw_at 535 rfl (by decide +kernel)
def zTape : List (Nat × Nat) := [(1, 1461501638011467968958211816700382608708155211845), (2, 27670116106269424145)]
theorem zone {l : Launch} {G : qG} {gh : zGh} {d : Nat} {N : qMn} {tab : List zBl} {pcs : List Nat} {K : zKr} {lv0 : List zX} {A : zAm} (h : zT (zPb l G gh d N pcs) tab pcs) (n : Nat) (hr : zn zfl tab 0 (zjc (K := K) n tab (fun _ => oFail)) K lv0 [] 0 0 336 A = true) : zS l G gh d K N (zn 0 pcs 0) (zwc (0, lv0, A) 0) :=
  zcuts h (fun _ => (0, lv0, A)) (fun _ _ => oFail) (fun _ _ _ _ _ _ _ _ q => by cases q) n 1 (fun _ _ => hr) 0 (by omega) 0
section
variable {l : Launch} {G : qG} {gh : zGh}
def n_X5_hasRoom : qMn := (yX5_hasRoom, cX5_hasRoom, 2, (some Jvm.ClassFile.FieldType.boolean), 0, 0)
theorem to_X5_hasRoom : qTo n_X5_hasRoom 1 := ⟨g502, g98, ⟨by decide, by decide, by decide +kernel⟩, by decide⟩
def p_X5_hasRoom : List Nat := [0, 12, 16, 17]
noncomputable def b_X5_hasRoom_0 : zBl := fun jp K => oAld 0 <| oGetI 5 1 <| oIld 1 <| oB2 zadd <| oInt 2147485648 <| oIc zgt zle (jp 2) (jp 1)
theorem s_X5_hasRoom_0 (d : Nat) : zPb l G gh (d + 1) n_X5_hasRoom p_X5_hasRoom 0 b_X5_hasRoom_0 := fun K jp hj =>
    z_aload_n (n := 0) (i := 0) (zd (i := .aload_n 0) (n := 1) (by decide +kernel)) rfl <|
    z_getI (ci := 5) (j := 1) (idx := 15) (zd (i := .getfield 15) (n := 3) (by decide +kernel)) (by decide +kernel) (by decide +kernel) rfl g130 <|
    z_iload_n (n := 1) (i := 1) (zd (i := .iload_n 1) (n := 1) (by decide +kernel)) rfl <|
    z_iadd (zd (i := .iadd) (n := 1) (by decide +kernel)) <|
    z_sipush (n := 2000) (zd (i := .sipush (2000)) (n := 3) (by decide +kernel)) (by decide +kernel) <|
    z_icmp_gt (off := 7) (tgt := 16) (zd (i := .if_icmp .gt (7)) (n := 3) (by decide +kernel)) (by decide +kernel) (zj (hj 2) (by decide +kernel)) (zj (hj 1) (by decide +kernel))
noncomputable def b_X5_hasRoom_1 : zBl := fun jp K => oInt 2147483649 <| jp 3
theorem s_X5_hasRoom_1 (d : Nat) : zPb l G gh (d + 1) n_X5_hasRoom p_X5_hasRoom 12 b_X5_hasRoom_1 := fun K jp hj =>
    z_iconst (n := 1) (zd (i := .iconst (1)) (n := 1) (by decide +kernel)) (by decide +kernel) <|
    z_goto (off := 4) (tgt := 17) (zd (i := .goto (4)) (n := 3) (by decide +kernel)) (by decide +kernel) (zj (hj 3) (by decide +kernel))
noncomputable def b_X5_hasRoom_2 : zBl := fun jp K => oInt 2147483648 <| jp 3
theorem s_X5_hasRoom_2 (d : Nat) : zPb l G gh (d + 1) n_X5_hasRoom p_X5_hasRoom 16 b_X5_hasRoom_2 := fun K jp hj =>
    z_iconst (n := 0) (zd (i := .iconst (0)) (n := 1) (by decide +kernel)) (by decide +kernel) <|
    (zj (hj 3) (by decide +kernel))
noncomputable def b_X5_hasRoom_3 : zBl := fun jp K => oZret K
theorem s_X5_hasRoom_3 (d : Nat) : zPb l G gh (d + 1) n_X5_hasRoom p_X5_hasRoom 17 b_X5_hasRoom_3 := fun K jp hj =>
    z_zret (zd (i := .ireturn) (n := 1) (by decide +kernel)) rfl
noncomputable def f_X5_hasRoom : zMt := zmet 2 [b_X5_hasRoom_0, b_X5_hasRoom_1, b_X5_hasRoom_2, b_X5_hasRoom_3]
theorem c_X5_hasRoom (d : Nat) : zC l G gh (d + 1) n_X5_hasRoom f_X5_hasRoom := zmet_ok (pcs := p_X5_hasRoom) (by decide) rfl rfl ⟨s_X5_hasRoom_0 d, s_X5_hasRoom_1 d, s_X5_hasRoom_2 d, s_X5_hasRoom_3 d, trivial⟩
noncomputable def t_X5_hasRoom : List zBl := [b_X5_hasRoom_0, b_X5_hasRoom_1, b_X5_hasRoom_2, b_X5_hasRoom_3]
theorem tt_X5_hasRoom (d : Nat) : zT (zPb l G gh (d + 1) n_X5_hasRoom p_X5_hasRoom) t_X5_hasRoom p_X5_hasRoom := ⟨s_X5_hasRoom_0 d, s_X5_hasRoom_1 d, s_X5_hasRoom_2 d, s_X5_hasRoom_3 d, trivial⟩
noncomputable def al_X5_hasRoom : zAq := [(some (.inl 9223372043297226753), zTape)]
theorem r_X5_hasRoom : zn zfl t_X5_hasRoom 0 (zjc (K := zpost (zAlq al_X5_hasRoom)) 1000 t_X5_hasRoom (fun _ => oFail)) (zpost (zAlq al_X5_hasRoom)) [.inr (.ref 1), .inl 8589934591] [] 0 0 336 (zP zTape) = true := by decide +kernel
noncomputable def gs_X5_hasRoom : zMt := zgq 2 [.inr (.ref 1), .inl 8589934591] zTape al_X5_hasRoom
theorem cs_X5_hasRoom (d : Nat) : zC l G gh (d + 1) n_X5_hasRoom gs_X5_hasRoom := zgq_ok (pcs := p_X5_hasRoom) (by decide) rfl rfl (fun a ha => by simp only [al_X5_hasRoom, List.mem_cons, List.not_mem_nil, or_false] at ha; subst ha; decide +kernel) (fun gh => zone (tt_X5_hasRoom d) 1000 r_X5_hasRoom) (by decide +kernel)
def n_X5_putWord : qMn := (yX5_putWord, cX5_putWord, 3, none, 0, 0)
theorem to_X5_putWord : qTo n_X5_putWord 1 := ⟨g506, g98, ⟨by decide, by decide, by decide +kernel⟩, by decide⟩
def p_X5_putWord : List Nat := [0, 3, 7, 17, 46]
noncomputable def b_X5_putWord_0 : zBl := fun jp K => oInt 2147483672 <| oIst 2 <| jp 1
theorem s_X5_putWord_0 (d : Nat) : zPb l G gh (d + 1) n_X5_putWord p_X5_putWord 0 b_X5_putWord_0 := fun K jp hj =>
    z_bipush (n := 24) (zd (i := .bipush (24)) (n := 2) (by decide +kernel)) (by decide +kernel) <|
    z_istore_n (n := 2) (i := 2) (zd (i := .istore_n 2) (n := 1) (by decide +kernel)) rfl (by decide +kernel) <|
    (zj (hj 1) (by decide +kernel))
noncomputable def b_X5_putWord_1 : zBl := fun jp K => oNLC 2 2147483648 zltN zgeN zn1_lt zn1_ge (jp 4) (jp 2)
theorem s_X5_putWord_1 (d : Nat) : zPb l G gh (d + 1) n_X5_putWord p_X5_putWord 3 b_X5_putWord_1 := fun K jp hj =>
    z_nL0_lt (i := 2) (a1 := 1) (off := 42) (tgt := 46) (zLd_n (n := 2) (i := 2) (zd (i := .iload_n 2) (n := 1) (by decide +kernel)) rfl) (zd (i := .ifCond .lt (42)) (n := 3) (by decide +kernel)) (by decide +kernel) (zj (hj 4) (by decide +kernel)) (zj (hj 2) (by decide +kernel))
noncomputable def b_X5_putWord_2 : zBl := fun jp K => oNFC 0 5 1 2147485648 zgeN zltN zn1_ge zn1_lt (jp 4) (jp 3)
theorem s_X5_putWord_2 (d : Nat) : zPb l G gh (d + 1) n_X5_putWord p_X5_putWord 7 b_X5_putWord_2 := fun K jp hj =>
    z_nFC_ge (r := 0) (ci := 5) (j := 1) (c0 := 2147485648) (a1 := 4) (a2 := 3) (off := 32) (tgt := 46) (zFd_n (n := 0) (r := 0) (ci := 5) (j := 1) (idx := 15) (zd (i := .aload_n 0) (n := 1) (by decide +kernel)) rfl (zd (i := .getfield 15) (n := 3) (by decide +kernel)) (by decide +kernel) (by decide +kernel) rfl g130) (by decide +kernel) rfl (zCn_s (n := 2000) (zd (i := .sipush (2000)) (n := 3) (by decide +kernel)) (by decide +kernel)) (zd (i := .if_icmp .ge (32)) (n := 3) (by decide +kernel)) (by decide +kernel) (zj (hj 4) (by decide +kernel)) (zj (hj 3) (by decide +kernel))
noncomputable def b_X5_putWord_3 : zBl := fun jp K => oAld 0 <| oGetR 5 0 <| oAld 0 <| oGetI 5 1 <| oIld 1 <| oIld 2 <| oB2 zishr <| oU zi2b <| oXast 11 znb <| oAld 0 <| oDup <| oGetI 5 1 <| oInt 2147483649 <| oB2 zadd <| oPutI 5 1 <| oInc 2 2147483640 <| jp 1
theorem s_X5_putWord_3 (d : Nat) : zPb l G gh (d + 1) n_X5_putWord p_X5_putWord 17 b_X5_putWord_3 := fun K jp hj =>
    z_aload_n (n := 0) (i := 0) (zd (i := .aload_n 0) (n := 1) (by decide +kernel)) rfl <|
    z_getR (ci := 5) (j := 0) (idx := 11) (zd (i := .getfield 11) (n := 3) (by decide +kernel)) (by decide +kernel) (by decide +kernel) rfl g129 <|
    z_aload_n (n := 0) (i := 0) (zd (i := .aload_n 0) (n := 1) (by decide +kernel)) rfl <|
    z_getI (ci := 5) (j := 1) (idx := 15) (zd (i := .getfield 15) (n := 3) (by decide +kernel)) (by decide +kernel) (by decide +kernel) rfl g130 <|
    z_iload_n (n := 1) (i := 1) (zd (i := .iload_n 1) (n := 1) (by decide +kernel)) rfl <|
    z_iload_n (n := 2) (i := 2) (zd (i := .iload_n 2) (n := 1) (by decide +kernel)) rfl <|
    z_ishr (zd (i := .ishr) (n := 1) (by decide +kernel)) <|
    z_i2b (zd (i := .i2b) (n := 1) (by decide +kernel)) <|
    z_bast (zd (i := .bastore) (n := 1) (by decide +kernel)) <|
    z_aload_n (n := 0) (i := 0) (zd (i := .aload_n 0) (n := 1) (by decide +kernel)) rfl <|
    z_dup (zd (i := .dup) (n := 1) (by decide +kernel)) <|
    z_getI (ci := 5) (j := 1) (idx := 15) (zd (i := .getfield 15) (n := 3) (by decide +kernel)) (by decide +kernel) (by decide +kernel) rfl g130 <|
    z_iconst (n := 1) (zd (i := .iconst (1)) (n := 1) (by decide +kernel)) (by decide +kernel) <|
    z_iadd (zd (i := .iadd) (n := 1) (by decide +kernel)) <|
    z_putI (ci := 5) (j := 1) (idx := 15) (zd (i := .putfield 15) (n := 3) (by decide +kernel)) (by decide +kernel) (by decide +kernel) rfl g130 (Or.inl rfl) <|
    z_iinc (i := 2) (n := -8) (zd (i := .iinc 2 (-8)) (n := 3) (by decide +kernel)) (by decide +kernel) (by decide +kernel) <|
    z_goto (off := -40) (tgt := 3) (zd (i := .goto (-40)) (n := 3) (by decide +kernel)) (by decide +kernel) (zj (hj 1) (by decide +kernel))
noncomputable def b_X5_putWord_4 : zBl := fun jp K => oVret K
theorem s_X5_putWord_4 (d : Nat) : zPb l G gh (d + 1) n_X5_putWord p_X5_putWord 46 b_X5_putWord_4 := fun K jp hj =>
    z_vret (zd (i := .return_) (n := 1) (by decide +kernel)) rfl
noncomputable def f_X5_putWord : zMt := zmet 3 [b_X5_putWord_0, b_X5_putWord_1, b_X5_putWord_2, b_X5_putWord_3, b_X5_putWord_4]
theorem c_X5_putWord (d : Nat) : zC l G gh (d + 1) n_X5_putWord f_X5_putWord := zmet_ok (pcs := p_X5_putWord) (by decide) rfl rfl ⟨s_X5_putWord_0 d, s_X5_putWord_1 d, s_X5_putWord_2 d, s_X5_putWord_3 d, s_X5_putWord_4 d, trivial⟩
noncomputable def t_X5_putWord : List zBl := [b_X5_putWord_0, b_X5_putWord_1, b_X5_putWord_2, b_X5_putWord_3, b_X5_putWord_4]
theorem tt_X5_putWord (d : Nat) : zT (zPb l G gh (d + 1) n_X5_putWord p_X5_putWord) t_X5_putWord p_X5_putWord := ⟨s_X5_putWord_0 d, s_X5_putWord_1 d, s_X5_putWord_2 d, s_X5_putWord_3 d, s_X5_putWord_4 d, trivial⟩
noncomputable def al_X5_putWord : zAq := [(none, zTape)]
theorem r_X5_putWord : zn zfl t_X5_putWord 0 (zjc (K := zpost (zAlq al_X5_putWord)) 1000 t_X5_putWord (fun _ => oFail)) (zpost (zAlq al_X5_putWord)) [.inr (.ref 1), .inl 8589934591] [] 0 0 336 (zP zTape) = true := by decide +kernel
noncomputable def gs_X5_putWord : zMt := zgq 3 [.inr (.ref 1), .inl 8589934591] zTape al_X5_putWord
theorem cs_X5_putWord (d : Nat) : zC l G gh (d + 1) n_X5_putWord gs_X5_putWord := zgq_ok (pcs := p_X5_putWord) (by decide) rfl rfl (fun a ha => by simp only [al_X5_putWord, List.mem_cons, List.not_mem_nil, or_false] at ha; subst ha; decide +kernel) (fun gh => zone (tt_X5_putWord d) 1000 r_X5_putWord) (by decide +kernel)
def n_X5_byteAt : qMn := (yX5_byteAt, cX5_byteAt, 2, (some Jvm.ClassFile.FieldType.int), 0, 0)
theorem to_X5_byteAt : qTo n_X5_byteAt 1 := ⟨g535, g98, ⟨by decide, by decide, by decide +kernel⟩, by decide⟩
def p_X5_byteAt : List Nat := [0, 4, 12, 25, 26]
noncomputable def b_X5_byteAt_0 : zBl := fun jp K => oNLC 1 2147483648 zltN zgeN zn1_lt zn1_ge (jp 3) (jp 1)
theorem s_X5_byteAt_0 (d : Nat) : zPb l G gh (d + 1) n_X5_byteAt p_X5_byteAt 0 b_X5_byteAt_0 := fun K jp hj =>
    z_nL0_lt (i := 1) (a1 := 1) (off := 24) (tgt := 25) (zLd_n (n := 1) (i := 1) (zd (i := .iload_n 1) (n := 1) (by decide +kernel)) rfl) (zd (i := .ifCond .lt (24)) (n := 3) (by decide +kernel)) (by decide +kernel) (zj (hj 3) (by decide +kernel)) (zj (hj 1) (by decide +kernel))
noncomputable def b_X5_byteAt_1 : zBl := fun jp K => oNLF 1 0 5 1 zgeN zltN zn1_ge zn1_lt (jp 3) (jp 2)
theorem s_X5_byteAt_1 (d : Nat) : zPb l G gh (d + 1) n_X5_byteAt p_X5_byteAt 4 b_X5_byteAt_1 := fun K jp hj =>
    z_nLF_ge (i := 1) (r := 0) (ci := 5) (j := 1) (a1 := 1) (a2 := 4) (off := 16) (tgt := 25) (zLd_n (n := 1) (i := 1) (zd (i := .iload_n 1) (n := 1) (by decide +kernel)) rfl) (zFd_n (n := 0) (r := 0) (ci := 5) (j := 1) (idx := 15) (zd (i := .aload_n 0) (n := 1) (by decide +kernel)) rfl (zd (i := .getfield 15) (n := 3) (by decide +kernel)) (by decide +kernel) (by decide +kernel) rfl g130) (by decide +kernel) rfl (zd (i := .if_icmp .ge (16)) (n := 3) (by decide +kernel)) (by decide +kernel) (zj (hj 3) (by decide +kernel)) (zj (hj 2) (by decide +kernel))
noncomputable def b_X5_byteAt_2 : zBl := fun jp K => oAld 0 <| oGetR 5 0 <| oIld 1 <| oXald 11 <| oInt 2147483903 <| oB2 ziand <| jp 4
theorem s_X5_byteAt_2 (d : Nat) : zPb l G gh (d + 1) n_X5_byteAt p_X5_byteAt 12 b_X5_byteAt_2 := fun K jp hj =>
    z_aload_n (n := 0) (i := 0) (zd (i := .aload_n 0) (n := 1) (by decide +kernel)) rfl <|
    z_getR (ci := 5) (j := 0) (idx := 11) (zd (i := .getfield 11) (n := 3) (by decide +kernel)) (by decide +kernel) (by decide +kernel) rfl g129 <|
    z_iload_n (n := 1) (i := 1) (zd (i := .iload_n 1) (n := 1) (by decide +kernel)) rfl <|
    z_bald (zd (i := .baload) (n := 1) (by decide +kernel)) <|
    z_sipush (n := 255) (zd (i := .sipush (255)) (n := 3) (by decide +kernel)) (by decide +kernel) <|
    z_iand (zd (i := .iand) (n := 1) (by decide +kernel)) <|
    z_goto (off := 4) (tgt := 26) (zd (i := .goto (4)) (n := 3) (by decide +kernel)) (by decide +kernel) (zj (hj 4) (by decide +kernel))
noncomputable def b_X5_byteAt_3 : zBl := fun jp K => oInt 2147483647 <| jp 4
theorem s_X5_byteAt_3 (d : Nat) : zPb l G gh (d + 1) n_X5_byteAt p_X5_byteAt 25 b_X5_byteAt_3 := fun K jp hj =>
    z_iconst (n := -1) (zd (i := .iconst (-1)) (n := 1) (by decide +kernel)) (by decide +kernel) <|
    (zj (hj 4) (by decide +kernel))
noncomputable def b_X5_byteAt_4 : zBl := fun jp K => oIret K
theorem s_X5_byteAt_4 (d : Nat) : zPb l G gh (d + 1) n_X5_byteAt p_X5_byteAt 26 b_X5_byteAt_4 := fun K jp hj =>
    z_iret (zd (i := .ireturn) (n := 1) (by decide +kernel)) rfl
noncomputable def f_X5_byteAt : zMt := zmet 2 [b_X5_byteAt_0, b_X5_byteAt_1, b_X5_byteAt_2, b_X5_byteAt_3, b_X5_byteAt_4]
theorem c_X5_byteAt (d : Nat) : zC l G gh (d + 1) n_X5_byteAt f_X5_byteAt := zmet_ok (pcs := p_X5_byteAt) (by decide) rfl rfl ⟨s_X5_byteAt_0 d, s_X5_byteAt_1 d, s_X5_byteAt_2 d, s_X5_byteAt_3 d, s_X5_byteAt_4 d, trivial⟩
noncomputable def t_X5_byteAt : List zBl := [b_X5_byteAt_0, b_X5_byteAt_1, b_X5_byteAt_2, b_X5_byteAt_3, b_X5_byteAt_4]
theorem tt_X5_byteAt (d : Nat) : zT (zPb l G gh (d + 1) n_X5_byteAt p_X5_byteAt) t_X5_byteAt p_X5_byteAt := ⟨s_X5_byteAt_0 d, s_X5_byteAt_1 d, s_X5_byteAt_2 d, s_X5_byteAt_3 d, s_X5_byteAt_4 d, trivial⟩
noncomputable def al_X5_byteAt : zAq := [(some (.inl 9223372039002259711), zTape)]
theorem r_X5_byteAt : zn zfl t_X5_byteAt 0 (zjc (K := zpost (zAlq al_X5_byteAt)) 1000 t_X5_byteAt (fun _ => oFail)) (zpost (zAlq al_X5_byteAt)) [.inr (.ref 1), .inl 8589934591] [] 0 0 336 (zP zTape) = true := by decide +kernel
noncomputable def gs_X5_byteAt : zMt := zgq 2 [.inr (.ref 1), .inl 8589934591] zTape al_X5_byteAt
theorem cs_X5_byteAt (d : Nat) : zC l G gh (d + 1) n_X5_byteAt gs_X5_byteAt := zgq_ok (pcs := p_X5_byteAt) (by decide) rfl rfl (fun a ha => by simp only [al_X5_byteAt, List.mem_cons, List.not_mem_nil, or_false] at ha; subst ha; decide +kernel) (fun gh => zone (tt_X5_byteAt d) 1000 r_X5_byteAt) (by decide +kernel)
end
