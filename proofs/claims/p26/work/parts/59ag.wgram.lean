section
variable {l : Launch} {G : qG} {d : Nat}
def n_X1_fail : qMn := (yX1_fail, cX1_fail, 2, none, 0, 0)
theorem to_X1_fail : qTo n_X1_fail 1 := ⟨g625, g99, ⟨by decide, by decide, by decide +kernel⟩, by decide⟩
def n_X1_take : qMn := (yX1_take, cX1_take, 2, none, 0, 0)
theorem to_X1_take : qTo n_X1_take 1 := ⟨g629, g99, ⟨by decide, by decide, by decide +kernel⟩, by decide⟩
def n_X1_note : qMn := (yX1_note, cX1_note, 3, none, 0, 0)
theorem to_X1_note : qTo n_X1_note 2 := ⟨g641, g99, ⟨by decide, by decide, by decide +kernel⟩, by decide⟩
def n_X1_takeInt : qMn := (yX1_takeInt, cX1_takeInt, 5, (some Jvm.ClassFile.FieldType.int), 0, 0)
theorem to_X1_takeInt : qTo n_X1_takeInt 2 := ⟨g645, g99, ⟨by decide, by decide, by decide +kernel⟩, by decide⟩
def n_X1_takeStander : qMn := (yX1_takeStander, cX1_takeStander, 7, none, 0, 0)
theorem to_X1_takeStander : qTo n_X1_takeStander 1 := ⟨g633, g99, ⟨by decide, by decide, by decide +kernel⟩, by decide⟩
def n_X1_takeSetting : qMn := (yX1_takeSetting, cX1_takeSetting, 2, none, 0, 0)
theorem to_X1_takeSetting : qTo n_X1_takeSetting 1 := ⟨g675, g99, ⟨by decide, by decide, by decide +kernel⟩, by decide⟩
def n_X1_takeTell : qMn := (yX1_takeTell, cX1_takeTell, 2, none, 0, 0)
theorem to_X1_takeTell : qTo n_X1_takeTell 0 := ⟨g621, g99, ⟨by decide, by decide, by decide +kernel⟩, by decide⟩
def n_X1_takeLaw : qMn := (yX1_takeLaw, cX1_takeLaw, 4, none, 0, 0)
theorem to_X1_takeLaw : qTo n_X1_takeLaw 1 := ⟨g653, g99, ⟨by decide, by decide, by decide +kernel⟩, by decide⟩
def n_X1_takeSum : qMn := (yX1_takeSum, cX1_takeSum, 4, none, 0, 0)
theorem to_X1_takeSum : qTo n_X1_takeSum 1 := ⟨g658, g99, ⟨by decide, by decide, by decide +kernel⟩, by decide⟩
def n_X1_takeProduct : qMn := (yX1_takeProduct, cX1_takeProduct, 4, none, 0, 0)
theorem to_X1_takeProduct : qTo n_X1_takeProduct 1 := ⟨g662, g99, ⟨by decide, by decide, by decide +kernel⟩, by decide⟩
def n_X1_takeUnit : qMn := (yX1_takeUnit, cX1_takeUnit, 2, none, 0, 0)
theorem to_X1_takeUnit : qTo n_X1_takeUnit 1 := ⟨g666, g99, ⟨by decide, by decide, by decide +kernel⟩, by decide⟩
def n_X1_parse : qMn := (yX1_parse, cX1_parse, 3, (some Jvm.ClassFile.FieldType.int), 0, 0)
theorem to_X1_parse : qTo n_X1_parse 1 := ⟨g522, g99, ⟨by decide, by decide, by decide +kernel⟩, by decide⟩
def n_X0_addName : qMn := (yX0_addName, cX0_addName, 4, (some Jvm.ClassFile.FieldType.boolean), 0, 0)
theorem to_X0_addName : qTo n_X0_addName 1 := ⟨g637, g105, ⟨by decide, by decide, by decide +kernel⟩, by decide⟩
def n_X0_addStander : qMn := (yX0_addStander, cX0_addStander, 4, none, 0, 0)
theorem to_X0_addStander : qTo n_X0_addStander 3 := ⟨g649, g105, ⟨by decide, by decide, by decide +kernel⟩, by decide⟩
def n_X0_clear : qMn := (yX0_clear, cX0_clear, 1, none, 0, 0)
theorem to_X0_clear : qTo n_X0_clear 0 := ⟨g259, g105, ⟨by decide, by decide, by decide +kernel⟩, by decide⟩
def n_X2_open : qMn := (yX2_open, cX2_open, 2, none, 0, 0)
theorem to_X2_open : qTo n_X2_open 1 := ⟨g271, g106, ⟨by decide, by decide, by decide +kernel⟩, by decide⟩
def n_X2_emit : qMn := (yX2_emit, cX2_emit, 3, (some Jvm.ClassFile.FieldType.int), 0, 0)
theorem to_X2_emit : qTo n_X2_emit 2 := ⟨g275, g106, ⟨by decide, by decide, by decide +kernel⟩, by decide⟩
def n_X2_leadOnFrom : qMn := (yX2_leadOnFrom, cX2_leadOnFrom, 2, none, 0, 0)
theorem to_X2_leadOnFrom : qTo n_X2_leadOnFrom 1 := ⟨g671, g106, ⟨by decide, by decide, by decide +kernel⟩, by decide⟩
def n_X2_clear : qMn := (yX2_clear, cX2_clear, 1, none, 0, 0)
theorem to_X2_clear : qTo n_X2_clear 0 := ⟨g263, g106, ⟨by decide, by decide, by decide +kernel⟩, by decide⟩
def n_X2_openWithVar : qMn := (yX2_openWithVar, cX2_openWithVar, 3, none, 0, 0)
theorem to_X2_openWithVar : qTo n_X2_openWithVar 2 := ⟨g267, g106, ⟨by decide, by decide, by decide +kernel⟩, by decide⟩
theorem w_X1_fail_0 {Q : qQ} {I : qMI} {L : qML} {R : qMR} {a1 : Int32} (kt : ¬ (I 3 4) = 0 → wkB l G (d + 1) n_X1_fail Q 28 [.ref 3, .int a1] [] I L R) (kf : (I 3 4) = 0 → wkB l G (d + 1) n_X1_fail Q 7 [.ref 3, .int a1] [] I L R) : wkB l G (d + 1) n_X1_fail Q 0 [.ref 3, .int a1] [] I L R :=
  bb_aload_n (n := 0) (i := 0) (zd (i := .aload_n 0) (n := 1) (by decide +kernel)) rfl rfl <|
  bb_geti (k := 3) (ci := 1) (j := 4) (idx := 32) (zd (i := .getfield 32) (n := 3) (by decide +kernel)) (by decide +kernel) (by decide +kernel) (by decide +kernel) (by decide +kernel) rfl g339 <|
  (fun lv hl => q_if_ne (off := 24) (tgt := 28) (zd (i := .ifCond .ne (24)) (n := 3) (by decide +kernel)) (by decide) (fun h => (kt h) lv hl) (fun h => (kf h) lv hl))
theorem w_X1_fail_7 {Q : qQ} {I : qMI} {L : qML} {R : qMR} {a1 : Int32} (h1 : R 3 0 = some 4) (h2 : R 4 2 = some 7) (h3 : vp_in ((qUp I 3 4 a1) 3 2) 401) (k : wkB l G (d + 1) n_X1_fail Q 28 [.ref 3, .int a1] [] (qUp (qUp I 3 4 a1) 3 5 ((qUp I 3 4 a1) 7 ((qUp I 3 4 a1) 3 2).toNatClampNeg)) L R) : wkB l G (d + 1) n_X1_fail Q 7 [.ref 3, .int a1] [] I L R :=
  bb_aload_n (n := 0) (i := 0) (zd (i := .aload_n 0) (n := 1) (by decide +kernel)) rfl rfl <|
  bb_iload_n (n := 1) (i := 1) (zd (i := .iload_n 1) (n := 1) (by decide +kernel)) rfl rfl <|
  bb_puti (k := 3) (ci := 1) (j := 4) (idx := 32) (zd (i := .putfield 32) (n := 3) (by decide +kernel)) (by decide +kernel) (by decide +kernel) (by decide +kernel) (by decide +kernel) g339 rfl rfl <|
  bb_aload_n (n := 0) (i := 0) (zd (i := .aload_n 0) (n := 1) (by decide +kernel)) rfl rfl <|
  bb_aload_n (n := 0) (i := 0) (zd (i := .aload_n 0) (n := 1) (by decide +kernel)) rfl rfl <|
  bb_getr (k := 3) (ci := 1) (j := 0) (idx := 12) (a := 4) (zd (i := .getfield 12) (n := 3) (by decide +kernel)) (by decide +kernel) (by decide +kernel) (by decide +kernel) (by decide +kernel) rfl g335 h1 <|
  bb_getr (k := 4) (ci := 6) (j := 2) (idx := 58) (a := 7) (zd (i := .getfield 58) (n := 3) (by decide +kernel)) (by decide +kernel) (by decide +kernel) (by decide +kernel) (by decide +kernel) rfl g208 h2 <|
  bb_aload_n (n := 0) (i := 0) (zd (i := .aload_n 0) (n := 1) (by decide +kernel)) rfl rfl <|
  bb_geti (k := 3) (ci := 1) (j := 2) (idx := 25) (zd (i := .getfield 25) (n := 3) (by decide +kernel)) (by decide +kernel) (by decide +kernel) (by decide +kernel) (by decide +kernel) rfl g337 <|
  bb_lift (fun _ => q_iald (k := 7) (zd (i := .iaload) (n := 1) (by decide +kernel)) (by decide +kernel) (by decide +kernel) h3) <|
  bb_puti (k := 3) (ci := 1) (j := 5) (idx := 35) (zd (i := .putfield 35) (n := 3) (by decide +kernel)) (by decide +kernel) (by decide +kernel) (by decide +kernel) (by decide +kernel) g340 rfl rfl <|
  k
theorem w_X1_fail_28 {Q : qQ} {I : qMI} {L : qML} {R : qMR} {a1 : Int32} (hQ : Q none 336 I L R) : wkB l G (d + 1) n_X1_fail Q 28 [.ref 3, .int a1] [] I L R :=
  (fun lv hl => q_vret (zd (i := .return_) (n := 1) (by decide +kernel)) rfl (Nat.le_refl _) (Nat.le_refl _) hQ)
theorem w_X1_take_0 {Q : qQ} {I : qMI} {L : qML} {R : qMR} {a1 : Int32} (kt : (I 3 4) = 0 → wkB l G (d + 1) n_X1_take Q 8 [.ref 3, .int a1] [] I L R) (kf : ¬ (I 3 4) = 0 → wkB l G (d + 1) n_X1_take Q 7 [.ref 3, .int a1] [] I L R) : wkB l G (d + 1) n_X1_take Q 0 [.ref 3, .int a1] [] I L R :=
  bb_aload_n (n := 0) (i := 0) (zd (i := .aload_n 0) (n := 1) (by decide +kernel)) rfl rfl <|
  bb_geti (k := 3) (ci := 1) (j := 4) (idx := 32) (zd (i := .getfield 32) (n := 3) (by decide +kernel)) (by decide +kernel) (by decide +kernel) (by decide +kernel) (by decide +kernel) rfl g339 <|
  (fun lv hl => q_if_eq (off := 4) (tgt := 8) (zd (i := .ifCond .eq (4)) (n := 3) (by decide +kernel)) (by decide) (fun h => (kt h) lv hl) (fun h => (kf h) lv hl))
theorem w_X1_take_7 {Q : qQ} {I : qMI} {L : qML} {R : qMR} {a1 : Int32} (hQ : Q none 336 I L R) : wkB l G (d + 1) n_X1_take Q 7 [.ref 3, .int a1] [] I L R :=
  (fun lv hl => q_vret (zd (i := .return_) (n := 1) (by decide +kernel)) rfl (Nat.le_refl _) (Nat.le_refl _) hQ)
theorem w_X1_take_8 {Q : qQ} {I : qMI} {L : qML} {R : qMR} {a1 : Int32} (kt : a1 = 0 → wkB l G (d + 1) n_X1_take Q 22 [.ref 3, .int a1] [] I L R) (kf : ¬ a1 = 0 → wkB l G (d + 1) n_X1_take Q 12 [.ref 3, .int a1] [] I L R) : wkB l G (d + 1) n_X1_take Q 8 [.ref 3, .int a1] [] I L R :=
  bb_iload_n (n := 1) (i := 1) (zd (i := .iload_n 1) (n := 1) (by decide +kernel)) rfl rfl <|
  (fun lv hl => q_if_eq (off := 13) (tgt := 22) (zd (i := .ifCond .eq (13)) (n := 3) (by decide +kernel)) (by decide) (fun h => (kt h) lv hl) (fun h => (kf h) lv hl))
theorem w_X1_take_12 {Q : qQ} {I : qMI} {L : qML} {R : qMR} {a1 : Int32} (kt : (I 3 2) < 400 → wkB l G (d + 1) n_X1_take Q 54 [.ref 3, .int a1] [] I L R) (kf : ¬ (I 3 2) < 400 → wkB l G (d + 1) n_X1_take Q 22 [.ref 3, .int a1] [] I L R) : wkB l G (d + 1) n_X1_take Q 12 [.ref 3, .int a1] [] I L R :=
  bb_aload_n (n := 0) (i := 0) (zd (i := .aload_n 0) (n := 1) (by decide +kernel)) rfl rfl <|
  bb_geti (k := 3) (ci := 1) (j := 2) (idx := 25) (zd (i := .getfield 25) (n := 3) (by decide +kernel)) (by decide +kernel) (by decide +kernel) (by decide +kernel) (by decide +kernel) rfl g337 <|
  bb_lift (fun _ => q_sipush (n := 400) (zd (i := .sipush (400)) (n := 3) (by decide +kernel)) rfl) <|
  (fun lv hl => q_icmp_lt (off := 35) (tgt := 54) (zd (i := .if_icmp .lt (35)) (n := 3) (by decide +kernel)) (by decide) (fun h => (kt h) lv hl) (fun h => (kf h) lv hl))
theorem w_X1_take_22 {Q : qQ} {I : qMI} {L : qML} {R : qMR} {a1 : Int32} (kt : a1 = 0 → wkB l G (d + 1) n_X1_take Q 31 [.ref 3, .int a1] [.ref 3] I L R) (kf : ¬ a1 = 0 → wkB l G (d + 1) n_X1_take Q 27 [.ref 3, .int a1] [.ref 3] I L R) : wkB l G (d + 1) n_X1_take Q 22 [.ref 3, .int a1] [] I L R :=
  bb_aload_n (n := 0) (i := 0) (zd (i := .aload_n 0) (n := 1) (by decide +kernel)) rfl rfl <|
  bb_iload_n (n := 1) (i := 1) (zd (i := .iload_n 1) (n := 1) (by decide +kernel)) rfl rfl <|
  (fun lv hl => q_if_eq (off := 7) (tgt := 31) (zd (i := .ifCond .eq (7)) (n := 3) (by decide +kernel)) (by decide) (fun h => (kt h) lv hl) (fun h => (kf h) lv hl))
theorem w_X1_take_27 {Q : qQ} {I : qMI} {L : qML} {R : qMR} {a1 : Int32} (k : wkB l G (d + 1) n_X1_take Q 32 [.ref 3, .int a1] [.int 2, .ref 3] I L R) : wkB l G (d + 1) n_X1_take Q 27 [.ref 3, .int a1] [.ref 3] I L R :=
  bb_lift (fun _ => q_iconst (n := 2) (zd (i := .iconst (2)) (n := 1) (by decide +kernel)) rfl) <|
  bb_lift (fun _ => q_goto (off := 4) (tgt := 32) (zd (i := .goto (4)) (n := 3) (by decide +kernel)) (by decide)) k
theorem w_X1_take_31 {Q : qQ} {I : qMI} {L : qML} {R : qMR} {a1 : Int32} (k : wkB l G (d + 1) n_X1_take Q 32 [.ref 3, .int a1] [.int 1, .ref 3] I L R) : wkB l G (d + 1) n_X1_take Q 31 [.ref 3, .int a1] [.ref 3] I L R :=
  bb_lift (fun _ => q_iconst (n := 1) (zd (i := .iconst (1)) (n := 1) (by decide +kernel)) rfl) <|
  k
theorem w_X1_take_32 {Q : qQ} {I : qMI} {L : qML} {R : qMR} {a1 : Int32} {s1 : Int32} (h1 : R 3 0 = some 4) (h2 : R 4 2 = some 7) (h3 : vp_in ((qUp I 3 4 s1) 3 2) 401) (k : wkB l G (d + 1) n_X1_take Q 80 [.ref 3, .int a1] [] (qUp (qUp I 3 4 s1) 3 5 ((qUp I 3 4 s1) 7 ((qUp I 3 4 s1) 3 2).toNatClampNeg)) L R) : wkB l G (d + 1) n_X1_take Q 32 [.ref 3, .int a1] [.int s1, .ref 3] I L R :=
  bb_puti (k := 3) (ci := 1) (j := 4) (idx := 32) (zd (i := .putfield 32) (n := 3) (by decide +kernel)) (by decide +kernel) (by decide +kernel) (by decide +kernel) (by decide +kernel) g339 rfl rfl <|
  bb_aload_n (n := 0) (i := 0) (zd (i := .aload_n 0) (n := 1) (by decide +kernel)) rfl rfl <|
  bb_aload_n (n := 0) (i := 0) (zd (i := .aload_n 0) (n := 1) (by decide +kernel)) rfl rfl <|
  bb_getr (k := 3) (ci := 1) (j := 0) (idx := 12) (a := 4) (zd (i := .getfield 12) (n := 3) (by decide +kernel)) (by decide +kernel) (by decide +kernel) (by decide +kernel) (by decide +kernel) rfl g335 h1 <|
  bb_getr (k := 4) (ci := 6) (j := 2) (idx := 58) (a := 7) (zd (i := .getfield 58) (n := 3) (by decide +kernel)) (by decide +kernel) (by decide +kernel) (by decide +kernel) (by decide +kernel) rfl g208 h2 <|
  bb_aload_n (n := 0) (i := 0) (zd (i := .aload_n 0) (n := 1) (by decide +kernel)) rfl rfl <|
  bb_geti (k := 3) (ci := 1) (j := 2) (idx := 25) (zd (i := .getfield 25) (n := 3) (by decide +kernel)) (by decide +kernel) (by decide +kernel) (by decide +kernel) (by decide +kernel) rfl g337 <|
  bb_lift (fun _ => q_iald (k := 7) (zd (i := .iaload) (n := 1) (by decide +kernel)) (by decide +kernel) (by decide +kernel) h3) <|
  bb_puti (k := 3) (ci := 1) (j := 5) (idx := 35) (zd (i := .putfield 35) (n := 3) (by decide +kernel)) (by decide +kernel) (by decide +kernel) (by decide +kernel) (by decide +kernel) g340 rfl rfl <|
  bb_lift (fun _ => q_goto (off := 29) (tgt := 80) (zd (i := .goto (29)) (n := 3) (by decide +kernel)) (by decide)) k
theorem w_X1_take_54 {Q : qQ} {I : qMI} {L : qML} {R : qMR} {a1 : Int32} (h1 : R 3 0 = some 4) (h2 : R 4 1 = some 6) (h3 : vp_in ((qUp I 3 2 ((I 3 2) + 1)) 3 2) 401) (k : wkB l G (d + 1) n_X1_take Q 80 [.ref 3, .int a1] [] (qUp (qUp I 3 2 ((I 3 2) + 1)) 3 3 ((qUp I 3 2 ((I 3 2) + 1)) 6 ((qUp I 3 2 ((I 3 2) + 1)) 3 2).toNatClampNeg)) L R) : wkB l G (d + 1) n_X1_take Q 54 [.ref 3, .int a1] [] I L R :=
  bb_aload_n (n := 0) (i := 0) (zd (i := .aload_n 0) (n := 1) (by decide +kernel)) rfl rfl <|
  bb_lift (fun _ => q_dup (zd (i := .dup) (n := 1) (by decide +kernel)) rfl) <|
  bb_geti (k := 3) (ci := 1) (j := 2) (idx := 25) (zd (i := .getfield 25) (n := 3) (by decide +kernel)) (by decide +kernel) (by decide +kernel) (by decide +kernel) (by decide +kernel) rfl g337 <|
  bb_lift (fun _ => q_iconst (n := 1) (zd (i := .iconst (1)) (n := 1) (by decide +kernel)) rfl) <|
  bb_lift (fun _ => q_iadd (zd (i := .iadd) (n := 1) (by decide +kernel))) <|
  bb_puti (k := 3) (ci := 1) (j := 2) (idx := 25) (zd (i := .putfield 25) (n := 3) (by decide +kernel)) (by decide +kernel) (by decide +kernel) (by decide +kernel) (by decide +kernel) g337 rfl rfl <|
  bb_aload_n (n := 0) (i := 0) (zd (i := .aload_n 0) (n := 1) (by decide +kernel)) rfl rfl <|
  bb_aload_n (n := 0) (i := 0) (zd (i := .aload_n 0) (n := 1) (by decide +kernel)) rfl rfl <|
  bb_getr (k := 3) (ci := 1) (j := 0) (idx := 12) (a := 4) (zd (i := .getfield 12) (n := 3) (by decide +kernel)) (by decide +kernel) (by decide +kernel) (by decide +kernel) (by decide +kernel) rfl g335 h1 <|
  bb_getr (k := 4) (ci := 6) (j := 1) (idx := 51) (a := 6) (zd (i := .getfield 51) (n := 3) (by decide +kernel)) (by decide +kernel) (by decide +kernel) (by decide +kernel) (by decide +kernel) rfl g206 h2 <|
  bb_aload_n (n := 0) (i := 0) (zd (i := .aload_n 0) (n := 1) (by decide +kernel)) rfl rfl <|
  bb_geti (k := 3) (ci := 1) (j := 2) (idx := 25) (zd (i := .getfield 25) (n := 3) (by decide +kernel)) (by decide +kernel) (by decide +kernel) (by decide +kernel) (by decide +kernel) rfl g337 <|
  bb_lift (fun _ => q_iald (k := 6) (zd (i := .iaload) (n := 1) (by decide +kernel)) (by decide +kernel) (by decide +kernel) h3) <|
  bb_puti (k := 3) (ci := 1) (j := 3) (idx := 29) (zd (i := .putfield 29) (n := 3) (by decide +kernel)) (by decide +kernel) (by decide +kernel) (by decide +kernel) (by decide +kernel) g338 rfl rfl <|
  k
theorem w_X1_take_80 {Q : qQ} {I : qMI} {L : qML} {R : qMR} {a1 : Int32} (hQ : Q none 336 I L R) : wkB l G (d + 1) n_X1_take Q 80 [.ref 3, .int a1] [] I L R :=
  (fun lv hl => q_vret (zd (i := .return_) (n := 1) (by decide +kernel)) rfl (Nat.le_refl _) (Nat.le_refl _) hQ)
theorem w_X1_note_0 {Q : qQ} {I : qMI} {L : qML} {R : qMR} {a1 : Int32} {a2 : Int32} (kt : ¬ (I 3 6) = 0 → wkB l G (d + 1) n_X1_note Q 17 [.ref 3, .int a1, .int a2] [] I L R) (kf : (I 3 6) = 0 → wkB l G (d + 1) n_X1_note Q 7 [.ref 3, .int a1, .int a2] [] I L R) : wkB l G (d + 1) n_X1_note Q 0 [.ref 3, .int a1, .int a2] [] I L R :=
  bb_aload_n (n := 0) (i := 0) (zd (i := .aload_n 0) (n := 1) (by decide +kernel)) rfl rfl <|
  bb_geti (k := 3) (ci := 1) (j := 6) (idx := 38) (zd (i := .getfield 38) (n := 3) (by decide +kernel)) (by decide +kernel) (by decide +kernel) (by decide +kernel) (by decide +kernel) rfl g342 <|
  (fun lv hl => q_if_ne (off := 13) (tgt := 17) (zd (i := .ifCond .ne (13)) (n := 3) (by decide +kernel)) (by decide) (fun h => (kt h) lv hl) (fun h => (kf h) lv hl))
theorem w_X1_note_7 {Q : qQ} {I : qMI} {L : qML} {R : qMR} {a1 : Int32} {a2 : Int32} (k : wkB l G (d + 1) n_X1_note Q 17 [.ref 3, .int a1, .int a2] [] (qUp (qUp I 3 6 a1) 3 7 a2) L R) : wkB l G (d + 1) n_X1_note Q 7 [.ref 3, .int a1, .int a2] [] I L R :=
  bb_aload_n (n := 0) (i := 0) (zd (i := .aload_n 0) (n := 1) (by decide +kernel)) rfl rfl <|
  bb_iload_n (n := 1) (i := 1) (zd (i := .iload_n 1) (n := 1) (by decide +kernel)) rfl rfl <|
  bb_puti (k := 3) (ci := 1) (j := 6) (idx := 38) (zd (i := .putfield 38) (n := 3) (by decide +kernel)) (by decide +kernel) (by decide +kernel) (by decide +kernel) (by decide +kernel) g342 rfl rfl <|
  bb_aload_n (n := 0) (i := 0) (zd (i := .aload_n 0) (n := 1) (by decide +kernel)) rfl rfl <|
  bb_iload_n (n := 2) (i := 2) (zd (i := .iload_n 2) (n := 1) (by decide +kernel)) rfl rfl <|
  bb_puti (k := 3) (ci := 1) (j := 7) (idx := 41) (zd (i := .putfield 41) (n := 3) (by decide +kernel)) (by decide +kernel) (by decide +kernel) (by decide +kernel) (by decide +kernel) g343 rfl rfl <|
  k
theorem w_X1_note_17 {Q : qQ} {I : qMI} {L : qML} {R : qMR} {a1 : Int32} {a2 : Int32} (hQ : Q none 336 I L R) : wkB l G (d + 1) n_X1_note Q 17 [.ref 3, .int a1, .int a2] [] I L R :=
  (fun lv hl => q_vret (zd (i := .return_) (n := 1) (by decide +kernel)) rfl (Nat.le_refl _) (Nat.le_refl _) hQ)
theorem w_X1_takeInt_0 {Q : qQ} {I : qMI} {L : qML} {R : qMR} {a1 : Int32} {a2 : Int32} (h1 : R 3 0 = some 4) (h2 : R 4 2 = some 7) (h3 : vp_in (I 3 2) 401) (h4 : R 3 0 = some 4) (h5 : R 4 3 = some 8) (h6 : vp_in (I 3 2) 401) (kt : ¬ (I 3 3) = 3 → wkB l G (d + 1) n_X1_takeInt Q 41 [.ref 3, .int a1, .int a2, .int (I 7 (I 3 2).toNatClampNeg), .int ((L 8 (I 3 2).toNatClampNeg).toInt32)] [.ref 3] I L R) (kf : (I 3 3) = 3 → wkB l G (d + 1) n_X1_takeInt Q 37 [.ref 3, .int a1, .int a2, .int (I 7 (I 3 2).toNatClampNeg), .int ((L 8 (I 3 2).toNatClampNeg).toInt32)] [.ref 3] I L R) : wkB l G (d + 1) n_X1_takeInt Q 0 [.ref 3, .int a1, .int a2, wkU, wkU] [] I L R :=
  bb_aload_n (n := 0) (i := 0) (zd (i := .aload_n 0) (n := 1) (by decide +kernel)) rfl rfl <|
  bb_getr (k := 3) (ci := 1) (j := 0) (idx := 12) (a := 4) (zd (i := .getfield 12) (n := 3) (by decide +kernel)) (by decide +kernel) (by decide +kernel) (by decide +kernel) (by decide +kernel) rfl g335 h1 <|
  bb_getr (k := 4) (ci := 6) (j := 2) (idx := 58) (a := 7) (zd (i := .getfield 58) (n := 3) (by decide +kernel)) (by decide +kernel) (by decide +kernel) (by decide +kernel) (by decide +kernel) rfl g208 h2 <|
  bb_aload_n (n := 0) (i := 0) (zd (i := .aload_n 0) (n := 1) (by decide +kernel)) rfl rfl <|
  bb_geti (k := 3) (ci := 1) (j := 2) (idx := 25) (zd (i := .getfield 25) (n := 3) (by decide +kernel)) (by decide +kernel) (by decide +kernel) (by decide +kernel) (by decide +kernel) rfl g337 <|
  bb_lift (fun _ => q_iald (k := 7) (zd (i := .iaload) (n := 1) (by decide +kernel)) (by decide +kernel) (by decide +kernel) h3) <|
  bb_istore_n (n := 3) (i := 3) (zd (i := .istore_n 3) (n := 1) (by decide +kernel)) rfl (by decide +kernel) (wkNl_i rfl) <|
  bb_aload_n (n := 0) (i := 0) (zd (i := .aload_n 0) (n := 1) (by decide +kernel)) rfl rfl <|
  bb_getr (k := 3) (ci := 1) (j := 0) (idx := 12) (a := 4) (zd (i := .getfield 12) (n := 3) (by decide +kernel)) (by decide +kernel) (by decide +kernel) (by decide +kernel) (by decide +kernel) rfl g335 h4 <|
  bb_getr (k := 4) (ci := 6) (j := 3) (idx := 84) (a := 8) (zd (i := .getfield 84) (n := 3) (by decide +kernel)) (by decide +kernel) (by decide +kernel) (by decide +kernel) (by decide +kernel) rfl g210 h5 <|
  bb_aload_n (n := 0) (i := 0) (zd (i := .aload_n 0) (n := 1) (by decide +kernel)) rfl rfl <|
  bb_geti (k := 3) (ci := 1) (j := 2) (idx := 25) (zd (i := .getfield 25) (n := 3) (by decide +kernel)) (by decide +kernel) (by decide +kernel) (by decide +kernel) (by decide +kernel) rfl g337 <|
  bb_lift (fun _ => q_lald (k := 8) (zd (i := .laload) (n := 1) (by decide +kernel)) (by decide +kernel) (by decide +kernel) h6) <|
  bb_lift (fun _ => q_l2i (zd (i := .l2i) (n := 1) (by decide +kernel))) <|
  bb_istore (i := 4) (zd (i := .istore 4) (n := 2) (by decide +kernel)) (by decide +kernel) (wkNl_i rfl) <|
  bb_aload_n (n := 0) (i := 0) (zd (i := .aload_n 0) (n := 1) (by decide +kernel)) rfl rfl <|
  bb_aload_n (n := 0) (i := 0) (zd (i := .aload_n 0) (n := 1) (by decide +kernel)) rfl rfl <|
  bb_geti (k := 3) (ci := 1) (j := 3) (idx := 29) (zd (i := .getfield 29) (n := 3) (by decide +kernel)) (by decide +kernel) (by decide +kernel) (by decide +kernel) (by decide +kernel) rfl g338 <|
  bb_lift (fun _ => q_iconst (n := 3) (zd (i := .iconst (3)) (n := 1) (by decide +kernel)) rfl) <|
  (fun lv hl => q_icmp_ne (off := 7) (tgt := 41) (zd (i := .if_icmp .ne (7)) (n := 3) (by decide +kernel)) (by decide) (fun h => (kt h) lv hl) (fun h => (kf h) lv hl))
theorem w_X1_takeInt_37 {Q : qQ} {I : qMI} {L : qML} {R : qMR} {a1 : Int32} {a2 : Int32} {a3 : Int32} {a4 : Int32} (k : wkB l G (d + 1) n_X1_takeInt Q 42 [.ref 3, .int a1, .int a2, .int a3, .int a4] [.int 1, .ref 3] I L R) : wkB l G (d + 1) n_X1_takeInt Q 37 [.ref 3, .int a1, .int a2, .int a3, .int a4] [.ref 3] I L R :=
  bb_lift (fun _ => q_iconst (n := 1) (zd (i := .iconst (1)) (n := 1) (by decide +kernel)) rfl) <|
  bb_lift (fun _ => q_goto (off := 4) (tgt := 42) (zd (i := .goto (4)) (n := 3) (by decide +kernel)) (by decide)) k
theorem w_X1_takeInt_41 {Q : qQ} {I : qMI} {L : qML} {R : qMR} {a1 : Int32} {a2 : Int32} {a3 : Int32} {a4 : Int32} (k : wkB l G (d + 1) n_X1_takeInt Q 42 [.ref 3, .int a1, .int a2, .int a3, .int a4] [.int 0, .ref 3] I L R) : wkB l G (d + 1) n_X1_takeInt Q 41 [.ref 3, .int a1, .int a2, .int a3, .int a4] [.ref 3] I L R :=
  bb_lift (fun _ => q_iconst (n := 0) (zd (i := .iconst (0)) (n := 1) (by decide +kernel)) rfl) <|
  k
theorem w_X1_takeInt_42 {Q : qQ} {I : qMI} {L : qML} {R : qMR} {a1 : Int32} {a2 : Int32} {a3 : Int32} {a4 : Int32} {s1 : Int32} {P : qMI → qML → qMR → Prop} (hc : wkCv l G d n_X1_take [.ref 3, .int s1] I L R P) (kk : ∀ I' L' R', P I' L' R' → wkB l G (d + 1) n_X1_takeInt Q 45 [.ref 3, .int a1, .int a2, .int a3, .int a4] [] I' L' R') : wkB l G (d + 1) n_X1_takeInt Q 42 [.ref 3, .int a1, .int a2, .int a3, .int a4] [.int s1, .ref 3] I L R :=
  bb_callV (idx := 71) (k := 3) (ci := 1) (N := n_X1_take) (As := [.int s1]) (st := []) (zd (i := .invokevirtual 71) (n := 3) (by decide +kernel)) to_X1_take g626 g628 g7 (Nat.le_of_ble_eq_true rfl) (by decide +kernel) (by decide +kernel) (by decide +kernel) rfl rfl rfl hc (fun r I' L' R' hq => by obtain ⟨rfl, hp⟩ := hq; exact kk I' L' R' hp)
theorem w_X1_takeInt_45 {Q : qQ} {I : qMI} {L : qML} {R : qMR} {a1 : Int32} {a2 : Int32} {a3 : Int32} {a4 : Int32} (kt : ¬ (I 3 4) = 0 → wkB l G (d + 1) n_X1_takeInt Q 70 [.ref 3, .int a1, .int a2, .int a3, .int a4] [] I L R) (kf : (I 3 4) = 0 → wkB l G (d + 1) n_X1_takeInt Q 52 [.ref 3, .int a1, .int a2, .int a3, .int a4] [] I L R) : wkB l G (d + 1) n_X1_takeInt Q 45 [.ref 3, .int a1, .int a2, .int a3, .int a4] [] I L R :=
  bb_aload_n (n := 0) (i := 0) (zd (i := .aload_n 0) (n := 1) (by decide +kernel)) rfl rfl <|
  bb_geti (k := 3) (ci := 1) (j := 4) (idx := 32) (zd (i := .getfield 32) (n := 3) (by decide +kernel)) (by decide +kernel) (by decide +kernel) (by decide +kernel) (by decide +kernel) rfl g339 <|
  (fun lv hl => q_if_ne (off := 21) (tgt := 70) (zd (i := .ifCond .ne (21)) (n := 3) (by decide +kernel)) (by decide) (fun h => (kt h) lv hl) (fun h => (kf h) lv hl))
theorem w_X1_takeInt_52 {Q : qQ} {I : qMI} {L : qML} {R : qMR} {a1 : Int32} {a2 : Int32} {a3 : Int32} {a4 : Int32} (kt : a4 < a1 → wkB l G (d + 1) n_X1_takeInt Q 64 [.ref 3, .int a1, .int a2, .int a3, .int a4] [] I L R) (kf : ¬ a4 < a1 → wkB l G (d + 1) n_X1_takeInt Q 58 [.ref 3, .int a1, .int a2, .int a3, .int a4] [] I L R) : wkB l G (d + 1) n_X1_takeInt Q 52 [.ref 3, .int a1, .int a2, .int a3, .int a4] [] I L R :=
  bb_iload (i := 4) (zd (i := .iload 4) (n := 2) (by decide +kernel)) rfl <|
  bb_iload_n (n := 1) (i := 1) (zd (i := .iload_n 1) (n := 1) (by decide +kernel)) rfl rfl <|
  (fun lv hl => q_icmp_lt (off := 9) (tgt := 64) (zd (i := .if_icmp .lt (9)) (n := 3) (by decide +kernel)) (by decide) (fun h => (kt h) lv hl) (fun h => (kf h) lv hl))
theorem w_X1_takeInt_58 {Q : qQ} {I : qMI} {L : qML} {R : qMR} {a1 : Int32} {a2 : Int32} {a3 : Int32} {a4 : Int32} (kt : a4 ≤ a2 → wkB l G (d + 1) n_X1_takeInt Q 70 [.ref 3, .int a1, .int a2, .int a3, .int a4] [] I L R) (kf : ¬ a4 ≤ a2 → wkB l G (d + 1) n_X1_takeInt Q 64 [.ref 3, .int a1, .int a2, .int a3, .int a4] [] I L R) : wkB l G (d + 1) n_X1_takeInt Q 58 [.ref 3, .int a1, .int a2, .int a3, .int a4] [] I L R :=
  bb_iload (i := 4) (zd (i := .iload 4) (n := 2) (by decide +kernel)) rfl <|
  bb_iload_n (n := 2) (i := 2) (zd (i := .iload_n 2) (n := 1) (by decide +kernel)) rfl rfl <|
  (fun lv hl => q_icmp_le (off := 9) (tgt := 70) (zd (i := .if_icmp .le (9)) (n := 3) (by decide +kernel)) (by decide) (fun h => (kt h) lv hl) (fun h => (kf h) lv hl))
theorem w_X1_takeInt_64 {Q : qQ} {I : qMI} {L : qML} {R : qMR} {a1 : Int32} {a2 : Int32} {a3 : Int32} {a4 : Int32} {P : qMI → qML → qMR → Prop} (hc : wkCv l G d n_X1_note [.ref 3, .int 5, .int a3] I L R P) (kk : ∀ I' L' R', P I' L' R' → wkB l G (d + 1) n_X1_takeInt Q 70 [.ref 3, .int a1, .int a2, .int a3, .int a4] [] I' L' R') : wkB l G (d + 1) n_X1_takeInt Q 64 [.ref 3, .int a1, .int a2, .int a3, .int a4] [] I L R :=
  bb_aload_n (n := 0) (i := 0) (zd (i := .aload_n 0) (n := 1) (by decide +kernel)) rfl rfl <|
  bb_lift (fun _ => q_iconst (n := 5) (zd (i := .iconst (5)) (n := 1) (by decide +kernel)) rfl) <|
  bb_iload_n (n := 3) (i := 3) (zd (i := .iload_n 3) (n := 1) (by decide +kernel)) rfl rfl <|
  bb_callV (idx := 92) (k := 3) (ci := 1) (N := n_X1_note) (As := [.int 5, .int a3]) (st := []) (zd (i := .invokevirtual 92) (n := 3) (by decide +kernel)) to_X1_note g638 g640 g9 (Nat.le_of_ble_eq_true rfl) (by decide +kernel) (by decide +kernel) (by decide +kernel) rfl rfl rfl hc (fun r I' L' R' hq => by obtain ⟨rfl, hp⟩ := hq; exact kk I' L' R' hp)
theorem w_X1_takeInt_70 {Q : qQ} {I : qMI} {L : qML} {R : qMR} {a1 : Int32} {a2 : Int32} {a3 : Int32} {a4 : Int32} (hQ : Q (some (.int a4)) 336 I L R) : wkB l G (d + 1) n_X1_takeInt Q 70 [.ref 3, .int a1, .int a2, .int a3, .int a4] [] I L R :=
  bb_iload (i := 4) (zd (i := .iload 4) (n := 2) (by decide +kernel)) rfl <|
  (fun lv hl => q_iret (zd (i := .ireturn) (n := 1) (by decide +kernel)) rfl rfl (Nat.le_refl _) (Nat.le_refl _) hQ)
theorem w_X1_takeStander_0 {Q : qQ} {I : qMI} {L : qML} {R : qMR} {a1 : Int32} (h1 : R 3 0 = some 4) (h2 : R 4 2 = some 7) (h3 : vp_in (I 3 2) 401) (h4 : R 3 0 = some 4) (h5 : R 4 3 = some 8) (h6 : vp_in (I 3 2) 401) (kt : ¬ (I 3 3) = 2 → wkB l G (d + 1) n_X1_takeStander Q 39 [.ref 3, .int a1, .int (I 7 (I 3 2).toNatClampNeg), .long (L 8 (I 3 2).toNatClampNeg), wkU, wkU, wkU] [.ref 3] I L R) (kf : (I 3 3) = 2 → wkB l G (d + 1) n_X1_takeStander Q 35 [.ref 3, .int a1, .int (I 7 (I 3 2).toNatClampNeg), .long (L 8 (I 3 2).toNatClampNeg), wkU, wkU, wkU] [.ref 3] I L R) : wkB l G (d + 1) n_X1_takeStander Q 0 [.ref 3, .int a1, wkU, wkU, wkU, wkU, wkU] [] I L R :=
  bb_aload_n (n := 0) (i := 0) (zd (i := .aload_n 0) (n := 1) (by decide +kernel)) rfl rfl <|
  bb_getr (k := 3) (ci := 1) (j := 0) (idx := 12) (a := 4) (zd (i := .getfield 12) (n := 3) (by decide +kernel)) (by decide +kernel) (by decide +kernel) (by decide +kernel) (by decide +kernel) rfl g335 h1 <|
  bb_getr (k := 4) (ci := 6) (j := 2) (idx := 58) (a := 7) (zd (i := .getfield 58) (n := 3) (by decide +kernel)) (by decide +kernel) (by decide +kernel) (by decide +kernel) (by decide +kernel) rfl g208 h2 <|
  bb_aload_n (n := 0) (i := 0) (zd (i := .aload_n 0) (n := 1) (by decide +kernel)) rfl rfl <|
  bb_geti (k := 3) (ci := 1) (j := 2) (idx := 25) (zd (i := .getfield 25) (n := 3) (by decide +kernel)) (by decide +kernel) (by decide +kernel) (by decide +kernel) (by decide +kernel) rfl g337 <|
  bb_lift (fun _ => q_iald (k := 7) (zd (i := .iaload) (n := 1) (by decide +kernel)) (by decide +kernel) (by decide +kernel) h3) <|
  bb_istore_n (n := 2) (i := 2) (zd (i := .istore_n 2) (n := 1) (by decide +kernel)) rfl (by decide +kernel) (wkNl_i rfl) <|
  bb_aload_n (n := 0) (i := 0) (zd (i := .aload_n 0) (n := 1) (by decide +kernel)) rfl rfl <|
  bb_getr (k := 3) (ci := 1) (j := 0) (idx := 12) (a := 4) (zd (i := .getfield 12) (n := 3) (by decide +kernel)) (by decide +kernel) (by decide +kernel) (by decide +kernel) (by decide +kernel) rfl g335 h4 <|
  bb_getr (k := 4) (ci := 6) (j := 3) (idx := 84) (a := 8) (zd (i := .getfield 84) (n := 3) (by decide +kernel)) (by decide +kernel) (by decide +kernel) (by decide +kernel) (by decide +kernel) rfl g210 h5 <|
  bb_aload_n (n := 0) (i := 0) (zd (i := .aload_n 0) (n := 1) (by decide +kernel)) rfl rfl <|
  bb_geti (k := 3) (ci := 1) (j := 2) (idx := 25) (zd (i := .getfield 25) (n := 3) (by decide +kernel)) (by decide +kernel) (by decide +kernel) (by decide +kernel) (by decide +kernel) rfl g337 <|
  bb_lift (fun _ => q_lald (k := 8) (zd (i := .laload) (n := 1) (by decide +kernel)) (by decide +kernel) (by decide +kernel) h6) <|
  bb_lstore_n (n := 3) (i := 3) (zd (i := .lstore_n 3) (n := 1) (by decide +kernel)) rfl (by decide +kernel) (wkNl_i rfl) <|
  bb_aload_n (n := 0) (i := 0) (zd (i := .aload_n 0) (n := 1) (by decide +kernel)) rfl rfl <|
  bb_aload_n (n := 0) (i := 0) (zd (i := .aload_n 0) (n := 1) (by decide +kernel)) rfl rfl <|
  bb_geti (k := 3) (ci := 1) (j := 3) (idx := 29) (zd (i := .getfield 29) (n := 3) (by decide +kernel)) (by decide +kernel) (by decide +kernel) (by decide +kernel) (by decide +kernel) rfl g338 <|
  bb_lift (fun _ => q_iconst (n := 2) (zd (i := .iconst (2)) (n := 1) (by decide +kernel)) rfl) <|
  (fun lv hl => q_icmp_ne (off := 7) (tgt := 39) (zd (i := .if_icmp .ne (7)) (n := 3) (by decide +kernel)) (by decide) (fun h => (kt h) lv hl) (fun h => (kf h) lv hl))
theorem w_X1_takeStander_35 {Q : qQ} {I : qMI} {L : qML} {R : qMR} {a1 : Int32} {a2 : Int32} {a3 : Int64} (k : wkB l G (d + 1) n_X1_takeStander Q 40 [.ref 3, .int a1, .int a2, .long a3, wkU, wkU, wkU] [.int 1, .ref 3] I L R) : wkB l G (d + 1) n_X1_takeStander Q 35 [.ref 3, .int a1, .int a2, .long a3, wkU, wkU, wkU] [.ref 3] I L R :=
  bb_lift (fun _ => q_iconst (n := 1) (zd (i := .iconst (1)) (n := 1) (by decide +kernel)) rfl) <|
  bb_lift (fun _ => q_goto (off := 4) (tgt := 40) (zd (i := .goto (4)) (n := 3) (by decide +kernel)) (by decide)) k
theorem w_X1_takeStander_39 {Q : qQ} {I : qMI} {L : qML} {R : qMR} {a1 : Int32} {a2 : Int32} {a3 : Int64} (k : wkB l G (d + 1) n_X1_takeStander Q 40 [.ref 3, .int a1, .int a2, .long a3, wkU, wkU, wkU] [.int 0, .ref 3] I L R) : wkB l G (d + 1) n_X1_takeStander Q 39 [.ref 3, .int a1, .int a2, .long a3, wkU, wkU, wkU] [.ref 3] I L R :=
  bb_lift (fun _ => q_iconst (n := 0) (zd (i := .iconst (0)) (n := 1) (by decide +kernel)) rfl) <|
  k
theorem w_X1_takeStander_40 {Q : qQ} {I : qMI} {L : qML} {R : qMR} {a1 : Int32} {a2 : Int32} {a3 : Int64} {s1 : Int32} {P : qMI → qML → qMR → Prop} (hc : wkCv l G d n_X1_take [.ref 3, .int s1] I L R P) (kk : ∀ I' L' R', P I' L' R' → wkB l G (d + 1) n_X1_takeStander Q 43 [.ref 3, .int a1, .int a2, .long a3, wkU, wkU, wkU] [] I' L' R') : wkB l G (d + 1) n_X1_takeStander Q 40 [.ref 3, .int a1, .int a2, .long a3, wkU, wkU, wkU] [.int s1, .ref 3] I L R :=
  bb_callV (idx := 71) (k := 3) (ci := 1) (N := n_X1_take) (As := [.int s1]) (st := []) (zd (i := .invokevirtual 71) (n := 3) (by decide +kernel)) to_X1_take g626 g628 g7 (Nat.le_of_ble_eq_true rfl) (by decide +kernel) (by decide +kernel) (by decide +kernel) rfl rfl rfl hc (fun r I' L' R' hq => by obtain ⟨rfl, hp⟩ := hq; exact kk I' L' R' hp)
theorem w_X1_takeStander_43 {Q : qQ} {I : qMI} {L : qML} {R : qMR} {a1 : Int32} {a2 : Int32} {a3 : Int64} (kt : ¬ (I 3 4) = 0 → wkB l G (d + 1) n_X1_takeStander Q 67 [.ref 3, .int a1, .int a2, .long a3, wkU, wkU, wkU] [] I L R) (kf : (I 3 4) = 0 → wkB l G (d + 1) n_X1_takeStander Q 50 [.ref 3, .int a1, .int a2, .long a3, wkU, wkU, wkU] [] I L R) : wkB l G (d + 1) n_X1_takeStander Q 43 [.ref 3, .int a1, .int a2, .long a3, wkU, wkU, wkU] [] I L R :=
  bb_aload_n (n := 0) (i := 0) (zd (i := .aload_n 0) (n := 1) (by decide +kernel)) rfl rfl <|
  bb_geti (k := 3) (ci := 1) (j := 4) (idx := 32) (zd (i := .getfield 32) (n := 3) (by decide +kernel)) (by decide +kernel) (by decide +kernel) (by decide +kernel) (by decide +kernel) rfl g339 <|
  (fun lv hl => q_if_ne (off := 20) (tgt := 67) (zd (i := .ifCond .ne (20)) (n := 3) (by decide +kernel)) (by decide) (fun h => (kt h) lv hl) (fun h => (kf h) lv hl))
theorem w_X1_takeStander_50 {Q : qQ} {I : qMI} {L : qML} {R : qMR} {o : Nat} (ho : o = 9 ∨ o = 259) {a1 : Int32} {a2 : Int32} {a3 : Int64} (h1 : R 3 1 = some o) {P : Int32 → qMI → qML → qMR → Prop} (hc : wkCi l G d n_X0_addName [.ref o, .long a3] I L R P) (kk : ∀ y I' L' R', P y I' L' R' → wkB l G (d + 1) n_X1_takeStander Q 58 [.ref 3, .int a1, .int a2, .long a3, wkU, wkU, wkU] [.int y] I' L' R') : wkB l G (d + 1) n_X1_takeStander Q 50 [.ref 3, .int a1, .int a2, .long a3, wkU, wkU, wkU] [] I L R :=
  bb_aload_n (n := 0) (i := 0) (zd (i := .aload_n 0) (n := 1) (by decide +kernel)) rfl rfl <|
  bb_getr (k := 3) (ci := 1) (j := 1) (idx := 21) (a := o) (zd (i := .getfield 21) (n := 3) (by decide +kernel)) (by decide +kernel) (by decide +kernel) (by decide +kernel) (by decide +kernel) rfl g336 h1 <|
  bb_lload_n (n := 3) (i := 3) (zd (i := .lload_n 3) (n := 1) (by decide +kernel)) rfl rfl <|
  bb_callV (idx := 88) (k := o) (ci := 0) (N := n_X0_addName) (As := [.long a3]) (st := []) (zd (i := .invokevirtual 88) (n := 3) (by decide +kernel)) to_X0_addName g634 g635 g636 (Nat.le_of_ble_eq_true rfl) (by rcases ho with rfl | rfl <;> decide +kernel) (by rcases ho with rfl | rfl <;> decide +kernel) (by decide +kernel) rfl rfl rfl hc (fun r I' L' R' hq => by obtain ⟨y, rfl, hp⟩ := hq; exact kk y I' L' R' hp)
theorem w_X1_takeStander_58 {Q : qQ} {I : qMI} {L : qML} {R : qMR} {a1 : Int32} {a2 : Int32} {a3 : Int64} {s0 : Int32} (kt : ¬ s0 = 0 → wkB l G (d + 1) n_X1_takeStander Q 67 [.ref 3, .int a1, .int a2, .long a3, wkU, wkU, wkU] [] I L R) (kf : s0 = 0 → wkB l G (d + 1) n_X1_takeStander Q 61 [.ref 3, .int a1, .int a2, .long a3, wkU, wkU, wkU] [] I L R) : wkB l G (d + 1) n_X1_takeStander Q 58 [.ref 3, .int a1, .int a2, .long a3, wkU, wkU, wkU] [.int s0] I L R :=
  (fun lv hl => q_if_ne (off := 9) (tgt := 67) (zd (i := .ifCond .ne (9)) (n := 3) (by decide +kernel)) (by decide) (fun h => (kt h) lv hl) (fun h => (kf h) lv hl))
theorem w_X1_takeStander_61 {Q : qQ} {I : qMI} {L : qML} {R : qMR} {a1 : Int32} {a2 : Int32} {a3 : Int64} {P : qMI → qML → qMR → Prop} (hc : wkCv l G d n_X1_note [.ref 3, .int 3, .int a2] I L R P) (kk : ∀ I' L' R', P I' L' R' → wkB l G (d + 1) n_X1_takeStander Q 67 [.ref 3, .int a1, .int a2, .long a3, wkU, wkU, wkU] [] I' L' R') : wkB l G (d + 1) n_X1_takeStander Q 61 [.ref 3, .int a1, .int a2, .long a3, wkU, wkU, wkU] [] I L R :=
  bb_aload_n (n := 0) (i := 0) (zd (i := .aload_n 0) (n := 1) (by decide +kernel)) rfl rfl <|
  bb_lift (fun _ => q_iconst (n := 3) (zd (i := .iconst (3)) (n := 1) (by decide +kernel)) rfl) <|
  bb_iload_n (n := 2) (i := 2) (zd (i := .iload_n 2) (n := 1) (by decide +kernel)) rfl rfl <|
  bb_callV (idx := 92) (k := 3) (ci := 1) (N := n_X1_note) (As := [.int 3, .int a2]) (st := []) (zd (i := .invokevirtual 92) (n := 3) (by decide +kernel)) to_X1_note g638 g640 g9 (Nat.le_of_ble_eq_true rfl) (by decide +kernel) (by decide +kernel) (by decide +kernel) rfl rfl rfl hc (fun r I' L' R' hq => by obtain ⟨rfl, hp⟩ := hq; exact kk I' L' R' hp)
theorem w_X1_takeStander_67 {Q : qQ} {I : qMI} {L : qML} {R : qMR} {a1 : Int32} {a2 : Int32} {a3 : Int64} {P : Int32 → qMI → qML → qMR → Prop} (hc : wkCi l G d n_X1_takeInt [.ref 3, .int 0, .int 19] I L R P) (kk : ∀ y I' L' R', P y I' L' R' → wkB l G (d + 1) n_X1_takeStander Q 74 [.ref 3, .int a1, .int a2, .long a3, wkU, wkU, wkU] [.int y] I' L' R') : wkB l G (d + 1) n_X1_takeStander Q 67 [.ref 3, .int a1, .int a2, .long a3, wkU, wkU, wkU] [] I L R :=
  bb_aload_n (n := 0) (i := 0) (zd (i := .aload_n 0) (n := 1) (by decide +kernel)) rfl rfl <|
  bb_lift (fun _ => q_iconst (n := 0) (zd (i := .iconst (0)) (n := 1) (by decide +kernel)) rfl) <|
  bb_lift (fun _ => q_bipush (n := 19) (zd (i := .bipush (19)) (n := 2) (by decide +kernel)) rfl) <|
  bb_callV (idx := 96) (k := 3) (ci := 1) (N := n_X1_takeInt) (As := [.int 0, .int 19]) (st := []) (zd (i := .invokevirtual 96) (n := 3) (by decide +kernel)) to_X1_takeInt g642 g644 g10 (Nat.le_of_ble_eq_true rfl) (by decide +kernel) (by decide +kernel) (by decide +kernel) rfl rfl rfl hc (fun r I' L' R' hq => by obtain ⟨y, rfl, hp⟩ := hq; exact kk y I' L' R' hp)
theorem w_X1_takeStander_74 {Q : qQ} {I : qMI} {L : qML} {R : qMR} {a1 : Int32} {a2 : Int32} {a3 : Int64} {s0 : Int32} (kt : a1 = 0 → wkB l G (d + 1) n_X1_takeStander Q 90 [.ref 3, .int a1, .int a2, .long a3, wkU, .int s0, wkU] [] I L R) (kf : ¬ a1 = 0 → wkB l G (d + 1) n_X1_takeStander Q 80 [.ref 3, .int a1, .int a2, .long a3, wkU, .int s0, wkU] [] I L R) : wkB l G (d + 1) n_X1_takeStander Q 74 [.ref 3, .int a1, .int a2, .long a3, wkU, wkU, wkU] [.int s0] I L R :=
  bb_istore (i := 5) (zd (i := .istore 5) (n := 2) (by decide +kernel)) (by decide +kernel) (wkNl_u rfl) <|
  bb_iload_n (n := 1) (i := 1) (zd (i := .iload_n 1) (n := 1) (by decide +kernel)) rfl rfl <|
  (fun lv hl => q_if_eq (off := 13) (tgt := 90) (zd (i := .ifCond .eq (13)) (n := 3) (by decide +kernel)) (by decide) (fun h => (kt h) lv hl) (fun h => (kf h) lv hl))
theorem w_X1_takeStander_80 {Q : qQ} {I : qMI} {L : qML} {R : qMR} {a1 : Int32} {a2 : Int32} {a3 : Int64} {a5 : Int32} {P : Int32 → qMI → qML → qMR → Prop} (hc : wkCi l G d n_X1_takeInt [.ref 3, .int 1, .int 9] I L R P) (kk : ∀ y I' L' R', P y I' L' R' → wkB l G (d + 1) n_X1_takeStander Q 87 [.ref 3, .int a1, .int a2, .long a3, wkU, .int a5, wkU] [.int y] I' L' R') : wkB l G (d + 1) n_X1_takeStander Q 80 [.ref 3, .int a1, .int a2, .long a3, wkU, .int a5, wkU] [] I L R :=
  bb_aload_n (n := 0) (i := 0) (zd (i := .aload_n 0) (n := 1) (by decide +kernel)) rfl rfl <|
  bb_lift (fun _ => q_iconst (n := 1) (zd (i := .iconst (1)) (n := 1) (by decide +kernel)) rfl) <|
  bb_lift (fun _ => q_bipush (n := 9) (zd (i := .bipush (9)) (n := 2) (by decide +kernel)) rfl) <|
  bb_callV (idx := 96) (k := 3) (ci := 1) (N := n_X1_takeInt) (As := [.int 1, .int 9]) (st := []) (zd (i := .invokevirtual 96) (n := 3) (by decide +kernel)) to_X1_takeInt g642 g644 g10 (Nat.le_of_ble_eq_true rfl) (by decide +kernel) (by decide +kernel) (by decide +kernel) rfl rfl rfl hc (fun r I' L' R' hq => by obtain ⟨y, rfl, hp⟩ := hq; exact kk y I' L' R' hp)
theorem w_X1_takeStander_87 {Q : qQ} {I : qMI} {L : qML} {R : qMR} {a1 : Int32} {a2 : Int32} {a3 : Int64} {a5 : Int32} {s0 : Int32} (k : wkB l G (d + 1) n_X1_takeStander Q 98 [.ref 3, .int a1, .int a2, .long a3, wkU, .int a5, wkU] [.int s0] I L R) : wkB l G (d + 1) n_X1_takeStander Q 87 [.ref 3, .int a1, .int a2, .long a3, wkU, .int a5, wkU] [.int s0] I L R :=
  bb_lift (fun _ => q_goto (off := 11) (tgt := 98) (zd (i := .goto (11)) (n := 3) (by decide +kernel)) (by decide)) k
theorem w_X1_takeStander_90 {Q : qQ} {I : qMI} {L : qML} {R : qMR} {a1 : Int32} {a2 : Int32} {a3 : Int64} {a5 : Int32} {P : Int32 → qMI → qML → qMR → Prop} (hc : wkCi l G d n_X1_takeInt [.ref 3, .int 0, .int 999] I L R P) (kk : ∀ y I' L' R', P y I' L' R' → wkB l G (d + 1) n_X1_takeStander Q 98 [.ref 3, .int a1, .int a2, .long a3, wkU, .int a5, wkU] [.int y] I' L' R') : wkB l G (d + 1) n_X1_takeStander Q 90 [.ref 3, .int a1, .int a2, .long a3, wkU, .int a5, wkU] [] I L R :=
  bb_aload_n (n := 0) (i := 0) (zd (i := .aload_n 0) (n := 1) (by decide +kernel)) rfl rfl <|
  bb_lift (fun _ => q_iconst (n := 0) (zd (i := .iconst (0)) (n := 1) (by decide +kernel)) rfl) <|
  bb_lift (fun _ => q_sipush (n := 999) (zd (i := .sipush (999)) (n := 3) (by decide +kernel)) rfl) <|
  bb_callV (idx := 96) (k := 3) (ci := 1) (N := n_X1_takeInt) (As := [.int 0, .int 999]) (st := []) (zd (i := .invokevirtual 96) (n := 3) (by decide +kernel)) to_X1_takeInt g642 g644 g10 (Nat.le_of_ble_eq_true rfl) (by decide +kernel) (by decide +kernel) (by decide +kernel) rfl rfl rfl hc (fun r I' L' R' hq => by obtain ⟨y, rfl, hp⟩ := hq; exact kk y I' L' R' hp)
theorem w_X1_takeStander_98 {Q : qQ} {I : qMI} {L : qML} {R : qMR} {a1 : Int32} {a2 : Int32} {a3 : Int64} {a5 : Int32} {s0 : Int32} (kt : ¬ (I 3 4) = 0 → wkB l G (d + 1) n_X1_takeStander Q 119 [.ref 3, .int a1, .int a2, .long a3, wkU, .int a5, .int s0] [] I L R) (kf : (I 3 4) = 0 → wkB l G (d + 1) n_X1_takeStander Q 107 [.ref 3, .int a1, .int a2, .long a3, wkU, .int a5, .int s0] [] I L R) : wkB l G (d + 1) n_X1_takeStander Q 98 [.ref 3, .int a1, .int a2, .long a3, wkU, .int a5, wkU] [.int s0] I L R :=
  bb_istore (i := 6) (zd (i := .istore 6) (n := 2) (by decide +kernel)) (by decide +kernel) (wkNl_i rfl) <|
  bb_aload_n (n := 0) (i := 0) (zd (i := .aload_n 0) (n := 1) (by decide +kernel)) rfl rfl <|
  bb_geti (k := 3) (ci := 1) (j := 4) (idx := 32) (zd (i := .getfield 32) (n := 3) (by decide +kernel)) (by decide +kernel) (by decide +kernel) (by decide +kernel) (by decide +kernel) rfl g339 <|
  (fun lv hl => q_if_ne (off := 15) (tgt := 119) (zd (i := .ifCond .ne (15)) (n := 3) (by decide +kernel)) (by decide) (fun h => (kt h) lv hl) (fun h => (kf h) lv hl))
theorem w_X1_takeStander_107 {Q : qQ} {I : qMI} {L : qML} {R : qMR} {o : Nat} (ho : o = 9 ∨ o = 259) {a1 : Int32} {a2 : Int32} {a3 : Int64} {a5 : Int32} {a6 : Int32} (h1 : R 3 1 = some o) {P : qMI → qML → qMR → Prop} (hc : wkCv l G d n_X0_addStander [.ref o, .int a1, .int a5, .int a6] I L R P) (kk : ∀ I' L' R', P I' L' R' → wkB l G (d + 1) n_X1_takeStander Q 119 [.ref 3, .int a1, .int a2, .long a3, wkU, .int a5, .int a6] [] I' L' R') : wkB l G (d + 1) n_X1_takeStander Q 107 [.ref 3, .int a1, .int a2, .long a3, wkU, .int a5, .int a6] [] I L R :=
  bb_aload_n (n := 0) (i := 0) (zd (i := .aload_n 0) (n := 1) (by decide +kernel)) rfl rfl <|
  bb_getr (k := 3) (ci := 1) (j := 1) (idx := 21) (a := o) (zd (i := .getfield 21) (n := 3) (by decide +kernel)) (by decide +kernel) (by decide +kernel) (by decide +kernel) (by decide +kernel) rfl g336 h1 <|
  bb_iload_n (n := 1) (i := 1) (zd (i := .iload_n 1) (n := 1) (by decide +kernel)) rfl rfl <|
  bb_iload (i := 5) (zd (i := .iload 5) (n := 2) (by decide +kernel)) rfl <|
  bb_iload (i := 6) (zd (i := .iload 6) (n := 2) (by decide +kernel)) rfl <|
  bb_callV (idx := 100) (k := o) (ci := 0) (N := n_X0_addStander) (As := [.int a1, .int a5, .int a6]) (st := []) (zd (i := .invokevirtual 100) (n := 3) (by decide +kernel)) to_X0_addStander g646 g647 g648 (Nat.le_of_ble_eq_true rfl) (by rcases ho with rfl | rfl <;> decide +kernel) (by rcases ho with rfl | rfl <;> decide +kernel) (by decide +kernel) rfl rfl rfl hc (fun r I' L' R' hq => by obtain ⟨rfl, hp⟩ := hq; exact kk I' L' R' hp)
theorem w_X1_takeStander_119 {Q : qQ} {I : qMI} {L : qML} {R : qMR} {a1 : Int32} {a2 : Int32} {a3 : Int64} {a5 : Int32} {a6 : Int32} (hQ : Q none 336 I L R) : wkB l G (d + 1) n_X1_takeStander Q 119 [.ref 3, .int a1, .int a2, .long a3, wkU, .int a5, .int a6] [] I L R :=
  (fun lv hl => q_vret (zd (i := .return_) (n := 1) (by decide +kernel)) rfl (Nat.le_refl _) (Nat.le_refl _) hQ)
theorem w_X1_takeSetting_0 {Q : qQ} {I : qMI} {L : qML} {R : qMR} {a1 : Int32} (k : qSwt (fun tg => wkB l G (d + 1) n_X1_takeSetting Q tg [.ref 3, .int a1] [] I L R) a1 135 [32, 49, 66, 83] 101) : wkB l G (d + 1) n_X1_takeSetting Q 0 [.ref 3, .int a1] [] I L R :=
  bb_iload_n (n := 1) (i := 1) (zd (i := .iload_n 1) (n := 1) (by decide +kernel)) rfl rfl <|
  bb_table (v := 135) (df := 101) (len := 31) (dflt := 100) (lo := 135) (hi := 138) (offs := #[31, 48, 65, 82]) (tgts := [32, 49, 66, 83]) (zd (i := .tableswitch (100) (135) (138) #[31, 48, 65, 82]) (n := 31) (by decide +kernel)) rfl rfl (by decide +kernel) (by decide +kernel) (by decide +kernel) k
theorem w_X1_takeSetting_32 {Q : qQ} {I : qMI} {L : qML} {R : qMR} {o : Nat} (ho : o = 9 ∨ o = 259) {a1 : Int32} (h1 : R 3 1 = some o) {P : Int32 → qMI → qML → qMR → Prop} (hc : wkCi l G d n_X1_takeInt [.ref 3, .int 1, .int 99] I L R P) (kk : ∀ y I' L' R', P y I' L' R' → wkB l G (d + 1) n_X1_takeSetting Q 43 [.ref 3, .int a1] [.int y, .ref o] I' L' R') : wkB l G (d + 1) n_X1_takeSetting Q 32 [.ref 3, .int a1] [] I L R :=
  bb_aload_n (n := 0) (i := 0) (zd (i := .aload_n 0) (n := 1) (by decide +kernel)) rfl rfl <|
  bb_getr (k := 3) (ci := 1) (j := 1) (idx := 21) (a := o) (zd (i := .getfield 21) (n := 3) (by decide +kernel)) (by decide +kernel) (by decide +kernel) (by decide +kernel) (by decide +kernel) rfl g336 h1 <|
  bb_aload_n (n := 0) (i := 0) (zd (i := .aload_n 0) (n := 1) (by decide +kernel)) rfl rfl <|
  bb_lift (fun _ => q_iconst (n := 1) (zd (i := .iconst (1)) (n := 1) (by decide +kernel)) rfl) <|
  bb_lift (fun _ => q_bipush (n := 99) (zd (i := .bipush (99)) (n := 2) (by decide +kernel)) rfl) <|
  bb_callV (idx := 96) (k := 3) (ci := 1) (N := n_X1_takeInt) (As := [.int 1, .int 99]) (st := [.ref o]) (zd (i := .invokevirtual 96) (n := 3) (by decide +kernel)) to_X1_takeInt g642 g644 g10 (Nat.le_of_ble_eq_true rfl) (by decide +kernel) (by decide +kernel) (by decide +kernel) rfl rfl rfl hc (fun r I' L' R' hq => by obtain ⟨y, rfl, hp⟩ := hq; exact kk y I' L' R' hp)
theorem w_X1_takeSetting_43 {Q : qQ} {I : qMI} {L : qML} {R : qMR} {o : Nat} (ho : o = 9 ∨ o = 259) {a1 : Int32} {s1 : Int32} (k : wkB l G (d + 1) n_X1_takeSetting Q 106 [.ref 3, .int a1] [] (qUp I o 8 s1) L R) : wkB l G (d + 1) n_X1_takeSetting Q 43 [.ref 3, .int a1] [.int s1, .ref o] I L R :=
  bb_puti (k := o) (ci := 0) (j := 8) (idx := 104) (zd (i := .putfield 104) (n := 3) (by decide +kernel)) (by rcases ho with rfl | rfl <;> decide +kernel) (by rcases ho with rfl | rfl <;> decide +kernel) (by decide +kernel) (by decide +kernel) g294 rfl rfl <|
  bb_lift (fun _ => q_goto (off := 60) (tgt := 106) (zd (i := .goto (60)) (n := 3) (by decide +kernel)) (by decide)) k
theorem w_X1_takeSetting_49 {Q : qQ} {I : qMI} {L : qML} {R : qMR} {o : Nat} (ho : o = 9 ∨ o = 259) {a1 : Int32} (h1 : R 3 1 = some o) {P : Int32 → qMI → qML → qMR → Prop} (hc : wkCi l G d n_X1_takeInt [.ref 3, .int 0, .int 100] I L R P) (kk : ∀ y I' L' R', P y I' L' R' → wkB l G (d + 1) n_X1_takeSetting Q 60 [.ref 3, .int a1] [.int y, .ref o] I' L' R') : wkB l G (d + 1) n_X1_takeSetting Q 49 [.ref 3, .int a1] [] I L R :=
  bb_aload_n (n := 0) (i := 0) (zd (i := .aload_n 0) (n := 1) (by decide +kernel)) rfl rfl <|
  bb_getr (k := 3) (ci := 1) (j := 1) (idx := 21) (a := o) (zd (i := .getfield 21) (n := 3) (by decide +kernel)) (by decide +kernel) (by decide +kernel) (by decide +kernel) (by decide +kernel) rfl g336 h1 <|
  bb_aload_n (n := 0) (i := 0) (zd (i := .aload_n 0) (n := 1) (by decide +kernel)) rfl rfl <|
  bb_lift (fun _ => q_iconst (n := 0) (zd (i := .iconst (0)) (n := 1) (by decide +kernel)) rfl) <|
  bb_lift (fun _ => q_bipush (n := 100) (zd (i := .bipush (100)) (n := 2) (by decide +kernel)) rfl) <|
  bb_callV (idx := 96) (k := 3) (ci := 1) (N := n_X1_takeInt) (As := [.int 0, .int 100]) (st := [.ref o]) (zd (i := .invokevirtual 96) (n := 3) (by decide +kernel)) to_X1_takeInt g642 g644 g10 (Nat.le_of_ble_eq_true rfl) (by decide +kernel) (by decide +kernel) (by decide +kernel) rfl rfl rfl hc (fun r I' L' R' hq => by obtain ⟨y, rfl, hp⟩ := hq; exact kk y I' L' R' hp)
theorem w_X1_takeSetting_60 {Q : qQ} {I : qMI} {L : qML} {R : qMR} {o : Nat} (ho : o = 9 ∨ o = 259) {a1 : Int32} {s1 : Int32} (k : wkB l G (d + 1) n_X1_takeSetting Q 106 [.ref 3, .int a1] [] (qUp I o 9 s1) L R) : wkB l G (d + 1) n_X1_takeSetting Q 60 [.ref 3, .int a1] [.int s1, .ref o] I L R :=
  bb_puti (k := o) (ci := 0) (j := 9) (idx := 107) (zd (i := .putfield 107) (n := 3) (by decide +kernel)) (by rcases ho with rfl | rfl <;> decide +kernel) (by rcases ho with rfl | rfl <;> decide +kernel) (by decide +kernel) (by decide +kernel) g296 rfl rfl <|
  bb_lift (fun _ => q_goto (off := 43) (tgt := 106) (zd (i := .goto (43)) (n := 3) (by decide +kernel)) (by decide)) k
theorem w_X1_takeSetting_66 {Q : qQ} {I : qMI} {L : qML} {R : qMR} {o : Nat} (ho : o = 9 ∨ o = 259) {a1 : Int32} (h1 : R 3 1 = some o) {P : Int32 → qMI → qML → qMR → Prop} (hc : wkCi l G d n_X1_takeInt [.ref 3, .int 0, .int 23] I L R P) (kk : ∀ y I' L' R', P y I' L' R' → wkB l G (d + 1) n_X1_takeSetting Q 77 [.ref 3, .int a1] [.int y, .ref o] I' L' R') : wkB l G (d + 1) n_X1_takeSetting Q 66 [.ref 3, .int a1] [] I L R :=
  bb_aload_n (n := 0) (i := 0) (zd (i := .aload_n 0) (n := 1) (by decide +kernel)) rfl rfl <|
  bb_getr (k := 3) (ci := 1) (j := 1) (idx := 21) (a := o) (zd (i := .getfield 21) (n := 3) (by decide +kernel)) (by decide +kernel) (by decide +kernel) (by decide +kernel) (by decide +kernel) rfl g336 h1 <|
  bb_aload_n (n := 0) (i := 0) (zd (i := .aload_n 0) (n := 1) (by decide +kernel)) rfl rfl <|
  bb_lift (fun _ => q_iconst (n := 0) (zd (i := .iconst (0)) (n := 1) (by decide +kernel)) rfl) <|
  bb_lift (fun _ => q_bipush (n := 23) (zd (i := .bipush (23)) (n := 2) (by decide +kernel)) rfl) <|
  bb_callV (idx := 96) (k := 3) (ci := 1) (N := n_X1_takeInt) (As := [.int 0, .int 23]) (st := [.ref o]) (zd (i := .invokevirtual 96) (n := 3) (by decide +kernel)) to_X1_takeInt g642 g644 g10 (Nat.le_of_ble_eq_true rfl) (by decide +kernel) (by decide +kernel) (by decide +kernel) rfl rfl rfl hc (fun r I' L' R' hq => by obtain ⟨y, rfl, hp⟩ := hq; exact kk y I' L' R' hp)
theorem w_X1_takeSetting_77 {Q : qQ} {I : qMI} {L : qML} {R : qMR} {o : Nat} (ho : o = 9 ∨ o = 259) {a1 : Int32} {s1 : Int32} (k : wkB l G (d + 1) n_X1_takeSetting Q 106 [.ref 3, .int a1] [] (qUp I o 10 s1) L R) : wkB l G (d + 1) n_X1_takeSetting Q 77 [.ref 3, .int a1] [.int s1, .ref o] I L R :=
  bb_puti (k := o) (ci := 0) (j := 10) (idx := 110) (zd (i := .putfield 110) (n := 3) (by decide +kernel)) (by rcases ho with rfl | rfl <;> decide +kernel) (by rcases ho with rfl | rfl <;> decide +kernel) (by decide +kernel) (by decide +kernel) g300 rfl rfl <|
  bb_lift (fun _ => q_goto (off := 26) (tgt := 106) (zd (i := .goto (26)) (n := 3) (by decide +kernel)) (by decide)) k
theorem w_X1_takeSetting_83 {Q : qQ} {I : qMI} {L : qML} {R : qMR} {o : Nat} (ho : o = 9 ∨ o = 259) {a1 : Int32} (h1 : R 3 1 = some o) {P : Int32 → qMI → qML → qMR → Prop} (hc : wkCi l G d n_X1_takeInt [.ref 3, .int 0, .int 9999] I L R P) (kk : ∀ y I' L' R', P y I' L' R' → wkB l G (d + 1) n_X1_takeSetting Q 95 [.ref 3, .int a1] [.int y, .ref o] I' L' R') : wkB l G (d + 1) n_X1_takeSetting Q 83 [.ref 3, .int a1] [] I L R :=
  bb_aload_n (n := 0) (i := 0) (zd (i := .aload_n 0) (n := 1) (by decide +kernel)) rfl rfl <|
  bb_getr (k := 3) (ci := 1) (j := 1) (idx := 21) (a := o) (zd (i := .getfield 21) (n := 3) (by decide +kernel)) (by decide +kernel) (by decide +kernel) (by decide +kernel) (by decide +kernel) rfl g336 h1 <|
  bb_aload_n (n := 0) (i := 0) (zd (i := .aload_n 0) (n := 1) (by decide +kernel)) rfl rfl <|
  bb_lift (fun _ => q_iconst (n := 0) (zd (i := .iconst (0)) (n := 1) (by decide +kernel)) rfl) <|
  bb_lift (fun _ => q_sipush (n := 9999) (zd (i := .sipush (9999)) (n := 3) (by decide +kernel)) rfl) <|
  bb_callV (idx := 96) (k := 3) (ci := 1) (N := n_X1_takeInt) (As := [.int 0, .int 9999]) (st := [.ref o]) (zd (i := .invokevirtual 96) (n := 3) (by decide +kernel)) to_X1_takeInt g642 g644 g10 (Nat.le_of_ble_eq_true rfl) (by decide +kernel) (by decide +kernel) (by decide +kernel) rfl rfl rfl hc (fun r I' L' R' hq => by obtain ⟨y, rfl, hp⟩ := hq; exact kk y I' L' R' hp)
theorem w_X1_takeSetting_95 {Q : qQ} {I : qMI} {L : qML} {R : qMR} {o : Nat} (ho : o = 9 ∨ o = 259) {a1 : Int32} {s1 : Int32} (k : wkB l G (d + 1) n_X1_takeSetting Q 106 [.ref 3, .int a1] [] (qUp I o 11 s1) L R) : wkB l G (d + 1) n_X1_takeSetting Q 95 [.ref 3, .int a1] [.int s1, .ref o] I L R :=
  bb_puti (k := o) (ci := 0) (j := 11) (idx := 113) (zd (i := .putfield 113) (n := 3) (by decide +kernel)) (by rcases ho with rfl | rfl <;> decide +kernel) (by rcases ho with rfl | rfl <;> decide +kernel) (by decide +kernel) (by decide +kernel) g302 rfl rfl <|
  bb_lift (fun _ => q_goto (off := 8) (tgt := 106) (zd (i := .goto (8)) (n := 3) (by decide +kernel)) (by decide)) k
theorem w_X1_takeSetting_101 {Q : qQ} {I : qMI} {L : qML} {R : qMR} {a1 : Int32} {P : qMI → qML → qMR → Prop} (hc : wkCv l G d n_X1_fail [.ref 3, .int 1] I L R P) (kk : ∀ I' L' R', P I' L' R' → wkB l G (d + 1) n_X1_takeSetting Q 106 [.ref 3, .int a1] [] I' L' R') : wkB l G (d + 1) n_X1_takeSetting Q 101 [.ref 3, .int a1] [] I L R :=
  bb_aload_n (n := 0) (i := 0) (zd (i := .aload_n 0) (n := 1) (by decide +kernel)) rfl rfl <|
  bb_lift (fun _ => q_iconst (n := 1) (zd (i := .iconst (1)) (n := 1) (by decide +kernel)) rfl) <|
  bb_callV (idx := 67) (k := 3) (ci := 1) (N := n_X1_fail) (As := [.int 1]) (st := []) (zd (i := .invokevirtual 67) (n := 3) (by decide +kernel)) to_X1_fail g622 g624 g6 (Nat.le_of_ble_eq_true rfl) (by decide +kernel) (by decide +kernel) (by decide +kernel) rfl rfl rfl hc (fun r I' L' R' hq => by obtain ⟨rfl, hp⟩ := hq; exact kk I' L' R' hp)
theorem w_X1_takeSetting_106 {Q : qQ} {I : qMI} {L : qML} {R : qMR} {a1 : Int32} (hQ : Q none 336 I L R) : wkB l G (d + 1) n_X1_takeSetting Q 106 [.ref 3, .int a1] [] I L R :=
  (fun lv hl => q_vret (zd (i := .return_) (n := 1) (by decide +kernel)) rfl (Nat.le_refl _) (Nat.le_refl _) hQ)
theorem w_X1_takeTell_0 {Q : qQ} {I : qMI} {L : qML} {R : qMR}  (kt : ¬ (I 3 3) = 128 → wkB l G (d + 1) n_X1_takeTell Q 24 [.ref 3, .int (I 3 3)] [] I L R) (kf : (I 3 3) = 128 → wkB l G (d + 1) n_X1_takeTell Q 12 [.ref 3, .int (I 3 3)] [] I L R) : wkB l G (d + 1) n_X1_takeTell Q 0 [.ref 3, wkU] [] I L R :=
  bb_aload_n (n := 0) (i := 0) (zd (i := .aload_n 0) (n := 1) (by decide +kernel)) rfl rfl <|
  bb_geti (k := 3) (ci := 1) (j := 3) (idx := 29) (zd (i := .getfield 29) (n := 3) (by decide +kernel)) (by decide +kernel) (by decide +kernel) (by decide +kernel) (by decide +kernel) rfl g338 <|
  bb_istore_n (n := 1) (i := 1) (zd (i := .istore_n 1) (n := 1) (by decide +kernel)) rfl (by decide +kernel) (wkNl_r rfl) <|
  bb_iload_n (n := 1) (i := 1) (zd (i := .iload_n 1) (n := 1) (by decide +kernel)) rfl rfl <|
  bb_lift (fun _ => q_sipush (n := 128) (zd (i := .sipush (128)) (n := 3) (by decide +kernel)) rfl) <|
  (fun lv hl => q_icmp_ne (off := 15) (tgt := 24) (zd (i := .if_icmp .ne (15)) (n := 3) (by decide +kernel)) (by decide) (fun h => (kt h) lv hl) (fun h => (kf h) lv hl))
theorem w_X1_takeTell_12 {Q : qQ} {I : qMI} {L : qML} {R : qMR} {o : Nat} (ho : o = 9 ∨ o = 259) {a1 : Int32} (h1 : R 3 1 = some o) (kt : 6 ≤ (I o 2) → wkB l G (d + 1) n_X1_takeTell Q 43 [.ref 3, .int a1] [] I L R) (kf : ¬ 6 ≤ (I o 2) → wkB l G (d + 1) n_X1_takeTell Q 24 [.ref 3, .int a1] [] I L R) : wkB l G (d + 1) n_X1_takeTell Q 12 [.ref 3, .int a1] [] I L R :=
  bb_aload_n (n := 0) (i := 0) (zd (i := .aload_n 0) (n := 1) (by decide +kernel)) rfl rfl <|
  bb_getr (k := 3) (ci := 1) (j := 1) (idx := 21) (a := o) (zd (i := .getfield 21) (n := 3) (by decide +kernel)) (by decide +kernel) (by decide +kernel) (by decide +kernel) (by decide +kernel) rfl g336 h1 <|
  bb_geti (k := o) (ci := 0) (j := 2) (idx := 61) (zd (i := .getfield 61) (n := 3) (by decide +kernel)) (by rcases ho with rfl | rfl <;> decide +kernel) (by rcases ho with rfl | rfl <;> decide +kernel) (by decide +kernel) (by decide +kernel) rfl g279 <|
  bb_lift (fun _ => q_bipush (n := 6) (zd (i := .bipush (6)) (n := 2) (by decide +kernel)) rfl) <|
  (fun lv hl => q_icmp_ge (off := 22) (tgt := 43) (zd (i := .if_icmp .ge (22)) (n := 3) (by decide +kernel)) (by decide) (fun h => (kt h) lv hl) (fun h => (kf h) lv hl))
theorem w_X1_takeTell_24 {Q : qQ} {I : qMI} {L : qML} {R : qMR} {a1 : Int32} (kt : ¬ a1 = 129 → wkB l G (d + 1) n_X1_takeTell Q 48 [.ref 3, .int a1] [] I L R) (kf : a1 = 129 → wkB l G (d + 1) n_X1_takeTell Q 31 [.ref 3, .int a1] [] I L R) : wkB l G (d + 1) n_X1_takeTell Q 24 [.ref 3, .int a1] [] I L R :=
  bb_iload_n (n := 1) (i := 1) (zd (i := .iload_n 1) (n := 1) (by decide +kernel)) rfl rfl <|
  bb_lift (fun _ => q_sipush (n := 129) (zd (i := .sipush (129)) (n := 3) (by decide +kernel)) rfl) <|
  (fun lv hl => q_icmp_ne (off := 20) (tgt := 48) (zd (i := .if_icmp .ne (20)) (n := 3) (by decide +kernel)) (by decide) (fun h => (kt h) lv hl) (fun h => (kf h) lv hl))
theorem w_X1_takeTell_31 {Q : qQ} {I : qMI} {L : qML} {R : qMR} {o : Nat} (ho : o = 9 ∨ o = 259) {a1 : Int32} (h1 : R 3 1 = some o) (kt : (I o 5) < 6 → wkB l G (d + 1) n_X1_takeTell Q 48 [.ref 3, .int a1] [] I L R) (kf : ¬ (I o 5) < 6 → wkB l G (d + 1) n_X1_takeTell Q 43 [.ref 3, .int a1] [] I L R) : wkB l G (d + 1) n_X1_takeTell Q 31 [.ref 3, .int a1] [] I L R :=
  bb_aload_n (n := 0) (i := 0) (zd (i := .aload_n 0) (n := 1) (by decide +kernel)) rfl rfl <|
  bb_getr (k := 3) (ci := 1) (j := 1) (idx := 21) (a := o) (zd (i := .getfield 21) (n := 3) (by decide +kernel)) (by decide +kernel) (by decide +kernel) (by decide +kernel) (by decide +kernel) rfl g336 h1 <|
  bb_geti (k := o) (ci := 0) (j := 5) (idx := 64) (zd (i := .getfield 64) (n := 3) (by decide +kernel)) (by rcases ho with rfl | rfl <;> decide +kernel) (by rcases ho with rfl | rfl <;> decide +kernel) (by decide +kernel) (by decide +kernel) rfl g287 <|
  bb_lift (fun _ => q_bipush (n := 6) (zd (i := .bipush (6)) (n := 2) (by decide +kernel)) rfl) <|
  (fun lv hl => q_icmp_lt (off := 8) (tgt := 48) (zd (i := .if_icmp .lt (8)) (n := 3) (by decide +kernel)) (by decide) (fun h => (kt h) lv hl) (fun h => (kf h) lv hl))
theorem w_X1_takeTell_43 {Q : qQ} {I : qMI} {L : qML} {R : qMR} {a1 : Int32} {P : qMI → qML → qMR → Prop} (hc : wkCv l G d n_X1_fail [.ref 3, .int 2] I L R P) (kk : ∀ I' L' R', P I' L' R' → wkB l G (d + 1) n_X1_takeTell Q 48 [.ref 3, .int a1] [] I' L' R') : wkB l G (d + 1) n_X1_takeTell Q 43 [.ref 3, .int a1] [] I L R :=
  bb_aload_n (n := 0) (i := 0) (zd (i := .aload_n 0) (n := 1) (by decide +kernel)) rfl rfl <|
  bb_lift (fun _ => q_iconst (n := 2) (zd (i := .iconst (2)) (n := 1) (by decide +kernel)) rfl) <|
  bb_callV (idx := 67) (k := 3) (ci := 1) (N := n_X1_fail) (As := [.int 2]) (st := []) (zd (i := .invokevirtual 67) (n := 3) (by decide +kernel)) to_X1_fail g622 g624 g6 (Nat.le_of_ble_eq_true rfl) (by decide +kernel) (by decide +kernel) (by decide +kernel) rfl rfl rfl hc (fun r I' L' R' hq => by obtain ⟨rfl, hp⟩ := hq; exact kk I' L' R' hp)
theorem w_X1_takeTell_48 {Q : qQ} {I : qMI} {L : qML} {R : qMR} {a1 : Int32} (kt : a1 < 128 → wkB l G (d + 1) n_X1_takeTell Q 67 [.ref 3, .int a1] [.ref 3] I L R) (kf : ¬ a1 < 128 → wkB l G (d + 1) n_X1_takeTell Q 56 [.ref 3, .int a1] [.ref 3] I L R) : wkB l G (d + 1) n_X1_takeTell Q 48 [.ref 3, .int a1] [] I L R :=
  bb_aload_n (n := 0) (i := 0) (zd (i := .aload_n 0) (n := 1) (by decide +kernel)) rfl rfl <|
  bb_iload_n (n := 1) (i := 1) (zd (i := .iload_n 1) (n := 1) (by decide +kernel)) rfl rfl <|
  bb_lift (fun _ => q_sipush (n := 128) (zd (i := .sipush (128)) (n := 3) (by decide +kernel)) rfl) <|
  (fun lv hl => q_icmp_lt (off := 14) (tgt := 67) (zd (i := .if_icmp .lt (14)) (n := 3) (by decide +kernel)) (by decide) (fun h => (kt h) lv hl) (fun h => (kf h) lv hl))
theorem w_X1_takeTell_56 {Q : qQ} {I : qMI} {L : qML} {R : qMR} {a1 : Int32} (kt : 138 < a1 → wkB l G (d + 1) n_X1_takeTell Q 67 [.ref 3, .int a1] [.ref 3] I L R) (kf : ¬ 138 < a1 → wkB l G (d + 1) n_X1_takeTell Q 63 [.ref 3, .int a1] [.ref 3] I L R) : wkB l G (d + 1) n_X1_takeTell Q 56 [.ref 3, .int a1] [.ref 3] I L R :=
  bb_iload_n (n := 1) (i := 1) (zd (i := .iload_n 1) (n := 1) (by decide +kernel)) rfl rfl <|
  bb_lift (fun _ => q_sipush (n := 138) (zd (i := .sipush (138)) (n := 3) (by decide +kernel)) rfl) <|
  (fun lv hl => q_icmp_gt (off := 7) (tgt := 67) (zd (i := .if_icmp .gt (7)) (n := 3) (by decide +kernel)) (by decide) (fun h => (kt h) lv hl) (fun h => (kf h) lv hl))
theorem w_X1_takeTell_63 {Q : qQ} {I : qMI} {L : qML} {R : qMR} {a1 : Int32} (k : wkB l G (d + 1) n_X1_takeTell Q 68 [.ref 3, .int a1] [.int 1, .ref 3] I L R) : wkB l G (d + 1) n_X1_takeTell Q 63 [.ref 3, .int a1] [.ref 3] I L R :=
  bb_lift (fun _ => q_iconst (n := 1) (zd (i := .iconst (1)) (n := 1) (by decide +kernel)) rfl) <|
  bb_lift (fun _ => q_goto (off := 4) (tgt := 68) (zd (i := .goto (4)) (n := 3) (by decide +kernel)) (by decide)) k
theorem w_X1_takeTell_67 {Q : qQ} {I : qMI} {L : qML} {R : qMR} {a1 : Int32} (k : wkB l G (d + 1) n_X1_takeTell Q 68 [.ref 3, .int a1] [.int 0, .ref 3] I L R) : wkB l G (d + 1) n_X1_takeTell Q 67 [.ref 3, .int a1] [.ref 3] I L R :=
  bb_lift (fun _ => q_iconst (n := 0) (zd (i := .iconst (0)) (n := 1) (by decide +kernel)) rfl) <|
  k
theorem w_X1_takeTell_68 {Q : qQ} {I : qMI} {L : qML} {R : qMR} {a1 : Int32} {s1 : Int32} {P : qMI → qML → qMR → Prop} (hc : wkCv l G d n_X1_take [.ref 3, .int s1] I L R P) (kk : ∀ I' L' R', P I' L' R' → wkB l G (d + 1) n_X1_takeTell Q 71 [.ref 3, .int a1] [] I' L' R') : wkB l G (d + 1) n_X1_takeTell Q 68 [.ref 3, .int a1] [.int s1, .ref 3] I L R :=
  bb_callV (idx := 71) (k := 3) (ci := 1) (N := n_X1_take) (As := [.int s1]) (st := []) (zd (i := .invokevirtual 71) (n := 3) (by decide +kernel)) to_X1_take g626 g628 g7 (Nat.le_of_ble_eq_true rfl) (by decide +kernel) (by decide +kernel) (by decide +kernel) rfl rfl rfl hc (fun r I' L' R' hq => by obtain ⟨rfl, hp⟩ := hq; exact kk I' L' R' hp)
theorem w_X1_takeTell_71 {Q : qQ} {I : qMI} {L : qML} {R : qMR} {a1 : Int32} (kt : a1 = 128 → wkB l G (d + 1) n_X1_takeTell Q 85 [.ref 3, .int a1] [] I L R) (kf : ¬ a1 = 128 → wkB l G (d + 1) n_X1_takeTell Q 78 [.ref 3, .int a1] [] I L R) : wkB l G (d + 1) n_X1_takeTell Q 71 [.ref 3, .int a1] [] I L R :=
  bb_iload_n (n := 1) (i := 1) (zd (i := .iload_n 1) (n := 1) (by decide +kernel)) rfl rfl <|
  bb_lift (fun _ => q_sipush (n := 128) (zd (i := .sipush (128)) (n := 3) (by decide +kernel)) rfl) <|
  (fun lv hl => q_icmp_eq (off := 10) (tgt := 85) (zd (i := .if_icmp .eq (10)) (n := 3) (by decide +kernel)) (by decide) (fun h => (kt h) lv hl) (fun h => (kf h) lv hl))
theorem w_X1_takeTell_78 {Q : qQ} {I : qMI} {L : qML} {R : qMR} {a1 : Int32} (kt : ¬ a1 = 129 → wkB l G (d + 1) n_X1_takeTell Q 104 [.ref 3, .int a1] [] I L R) (kf : a1 = 129 → wkB l G (d + 1) n_X1_takeTell Q 85 [.ref 3, .int a1] [] I L R) : wkB l G (d + 1) n_X1_takeTell Q 78 [.ref 3, .int a1] [] I L R :=
  bb_iload_n (n := 1) (i := 1) (zd (i := .iload_n 1) (n := 1) (by decide +kernel)) rfl rfl <|
  bb_lift (fun _ => q_sipush (n := 129) (zd (i := .sipush (129)) (n := 3) (by decide +kernel)) rfl) <|
  (fun lv hl => q_icmp_ne (off := 22) (tgt := 104) (zd (i := .if_icmp .ne (22)) (n := 3) (by decide +kernel)) (by decide) (fun h => (kt h) lv hl) (fun h => (kf h) lv hl))
theorem w_X1_takeTell_85 {Q : qQ} {I : qMI} {L : qML} {R : qMR} {a1 : Int32} (kt : ¬ a1 = 128 → wkB l G (d + 1) n_X1_takeTell Q 97 [.ref 3, .int a1] [.ref 3] I L R) (kf : a1 = 128 → wkB l G (d + 1) n_X1_takeTell Q 93 [.ref 3, .int a1] [.ref 3] I L R) : wkB l G (d + 1) n_X1_takeTell Q 85 [.ref 3, .int a1] [] I L R :=
  bb_aload_n (n := 0) (i := 0) (zd (i := .aload_n 0) (n := 1) (by decide +kernel)) rfl rfl <|
  bb_iload_n (n := 1) (i := 1) (zd (i := .iload_n 1) (n := 1) (by decide +kernel)) rfl rfl <|
  bb_lift (fun _ => q_sipush (n := 128) (zd (i := .sipush (128)) (n := 3) (by decide +kernel)) rfl) <|
  (fun lv hl => q_icmp_ne (off := 7) (tgt := 97) (zd (i := .if_icmp .ne (7)) (n := 3) (by decide +kernel)) (by decide) (fun h => (kt h) lv hl) (fun h => (kf h) lv hl))
theorem w_X1_takeTell_93 {Q : qQ} {I : qMI} {L : qML} {R : qMR} {a1 : Int32} (k : wkB l G (d + 1) n_X1_takeTell Q 98 [.ref 3, .int a1] [.int 1, .ref 3] I L R) : wkB l G (d + 1) n_X1_takeTell Q 93 [.ref 3, .int a1] [.ref 3] I L R :=
  bb_lift (fun _ => q_iconst (n := 1) (zd (i := .iconst (1)) (n := 1) (by decide +kernel)) rfl) <|
  bb_lift (fun _ => q_goto (off := 4) (tgt := 98) (zd (i := .goto (4)) (n := 3) (by decide +kernel)) (by decide)) k
theorem w_X1_takeTell_97 {Q : qQ} {I : qMI} {L : qML} {R : qMR} {a1 : Int32} (k : wkB l G (d + 1) n_X1_takeTell Q 98 [.ref 3, .int a1] [.int 0, .ref 3] I L R) : wkB l G (d + 1) n_X1_takeTell Q 97 [.ref 3, .int a1] [.ref 3] I L R :=
  bb_lift (fun _ => q_iconst (n := 0) (zd (i := .iconst (0)) (n := 1) (by decide +kernel)) rfl) <|
  k
theorem w_X1_takeTell_98 {Q : qQ} {I : qMI} {L : qML} {R : qMR} {a1 : Int32} {s1 : Int32} {P : qMI → qML → qMR → Prop} (hc : wkCv l G d n_X1_takeStander [.ref 3, .int s1] I L R P) (kk : ∀ I' L' R', P I' L' R' → wkB l G (d + 1) n_X1_takeTell Q 101 [.ref 3, .int a1] [] I' L' R') : wkB l G (d + 1) n_X1_takeTell Q 98 [.ref 3, .int a1] [.int s1, .ref 3] I L R :=
  bb_callV (idx := 75) (k := 3) (ci := 1) (N := n_X1_takeStander) (As := [.int s1]) (st := []) (zd (i := .invokevirtual 75) (n := 3) (by decide +kernel)) to_X1_takeStander g630 g632 g8 (Nat.le_of_ble_eq_true rfl) (by decide +kernel) (by decide +kernel) (by decide +kernel) rfl rfl rfl hc (fun r I' L' R' hq => by obtain ⟨rfl, hp⟩ := hq; exact kk I' L' R' hp)
theorem w_X1_takeTell_101 {Q : qQ} {I : qMI} {L : qML} {R : qMR} {a1 : Int32} (k : wkB l G (d + 1) n_X1_takeTell Q 135 [.ref 3, .int a1] [] I L R) : wkB l G (d + 1) n_X1_takeTell Q 101 [.ref 3, .int a1] [] I L R :=
  bb_lift (fun _ => q_goto (off := 34) (tgt := 135) (zd (i := .goto (34)) (n := 3) (by decide +kernel)) (by decide)) k
theorem w_X1_takeTell_104 {Q : qQ} {I : qMI} {L : qML} {R : qMR} {a1 : Int32} (kt : a1 < 130 → wkB l G (d + 1) n_X1_takeTell Q 130 [.ref 3, .int a1] [] I L R) (kf : ¬ a1 < 130 → wkB l G (d + 1) n_X1_takeTell Q 111 [.ref 3, .int a1] [] I L R) : wkB l G (d + 1) n_X1_takeTell Q 104 [.ref 3, .int a1] [] I L R :=
  bb_iload_n (n := 1) (i := 1) (zd (i := .iload_n 1) (n := 1) (by decide +kernel)) rfl rfl <|
  bb_lift (fun _ => q_sipush (n := 130) (zd (i := .sipush (130)) (n := 3) (by decide +kernel)) rfl) <|
  (fun lv hl => q_icmp_lt (off := 22) (tgt := 130) (zd (i := .if_icmp .lt (22)) (n := 3) (by decide +kernel)) (by decide) (fun h => (kt h) lv hl) (fun h => (kf h) lv hl))
theorem w_X1_takeTell_111 {Q : qQ} {I : qMI} {L : qML} {R : qMR} {a1 : Int32} (kt : 135 ≤ a1 → wkB l G (d + 1) n_X1_takeTell Q 130 [.ref 3, .int a1] [] I L R) (kf : ¬ 135 ≤ a1 → wkB l G (d + 1) n_X1_takeTell Q 118 [.ref 3, .int a1] [] I L R) : wkB l G (d + 1) n_X1_takeTell Q 111 [.ref 3, .int a1] [] I L R :=
  bb_iload_n (n := 1) (i := 1) (zd (i := .iload_n 1) (n := 1) (by decide +kernel)) rfl rfl <|
  bb_lift (fun _ => q_sipush (n := 135) (zd (i := .sipush (135)) (n := 3) (by decide +kernel)) rfl) <|
  (fun lv hl => q_icmp_ge (off := 15) (tgt := 130) (zd (i := .if_icmp .ge (15)) (n := 3) (by decide +kernel)) (by decide) (fun h => (kt h) lv hl) (fun h => (kf h) lv hl))
theorem w_X1_takeTell_118 {Q : qQ} {I : qMI} {L : qML} {R : qMR} {a1 : Int32} {P : qMI → qML → qMR → Prop} (hc : wkCv l G d n_X1_takeLaw [.ref 3, .int (a1 - 130)] I L R P) (kk : ∀ I' L' R', P I' L' R' → wkB l G (d + 1) n_X1_takeTell Q 127 [.ref 3, .int a1] [] I' L' R') : wkB l G (d + 1) n_X1_takeTell Q 118 [.ref 3, .int a1] [] I L R :=
  bb_aload_n (n := 0) (i := 0) (zd (i := .aload_n 0) (n := 1) (by decide +kernel)) rfl rfl <|
  bb_iload_n (n := 1) (i := 1) (zd (i := .iload_n 1) (n := 1) (by decide +kernel)) rfl rfl <|
  bb_lift (fun _ => q_sipush (n := 130) (zd (i := .sipush (130)) (n := 3) (by decide +kernel)) rfl) <|
  bb_lift (fun _ => q_isub (zd (i := .isub) (n := 1) (by decide +kernel))) <|
  bb_callV (idx := 78) (k := 3) (ci := 1) (N := n_X1_takeLaw) (As := [.int (a1 - 130)]) (st := []) (zd (i := .invokevirtual 78) (n := 3) (by decide +kernel)) to_X1_takeLaw g650 g652 g11 (Nat.le_of_ble_eq_true rfl) (by decide +kernel) (by decide +kernel) (by decide +kernel) rfl rfl rfl hc (fun r I' L' R' hq => by obtain ⟨rfl, hp⟩ := hq; exact kk I' L' R' hp)
theorem w_X1_takeTell_127 {Q : qQ} {I : qMI} {L : qML} {R : qMR} {a1 : Int32} (k : wkB l G (d + 1) n_X1_takeTell Q 135 [.ref 3, .int a1] [] I L R) : wkB l G (d + 1) n_X1_takeTell Q 127 [.ref 3, .int a1] [] I L R :=
  bb_lift (fun _ => q_goto (off := 8) (tgt := 135) (zd (i := .goto (8)) (n := 3) (by decide +kernel)) (by decide)) k
theorem w_X1_takeTell_130 {Q : qQ} {I : qMI} {L : qML} {R : qMR} {a1 : Int32} {P : qMI → qML → qMR → Prop} (hc : wkCv l G d n_X1_takeSetting [.ref 3, .int a1] I L R P) (kk : ∀ I' L' R', P I' L' R' → wkB l G (d + 1) n_X1_takeTell Q 135 [.ref 3, .int a1] [] I' L' R') : wkB l G (d + 1) n_X1_takeTell Q 130 [.ref 3, .int a1] [] I L R :=
  bb_aload_n (n := 0) (i := 0) (zd (i := .aload_n 0) (n := 1) (by decide +kernel)) rfl rfl <|
  bb_iload_n (n := 1) (i := 1) (zd (i := .iload_n 1) (n := 1) (by decide +kernel)) rfl rfl <|
  bb_callV (idx := 81) (k := 3) (ci := 1) (N := n_X1_takeSetting) (As := [.int a1]) (st := []) (zd (i := .invokevirtual 81) (n := 3) (by decide +kernel)) to_X1_takeSetting g672 g674 g15 (Nat.le_of_ble_eq_true rfl) (by decide +kernel) (by decide +kernel) (by decide +kernel) rfl rfl rfl hc (fun r I' L' R' hq => by obtain ⟨rfl, hp⟩ := hq; exact kk I' L' R' hp)
theorem w_X1_takeTell_135 {Q : qQ} {I : qMI} {L : qML} {R : qMR} {a1 : Int32} (kt : ¬ (I 3 3) = 59 → wkB l G (d + 1) n_X1_takeTell Q 149 [.ref 3, .int a1] [.ref 3] I L R) (kf : (I 3 3) = 59 → wkB l G (d + 1) n_X1_takeTell Q 145 [.ref 3, .int a1] [.ref 3] I L R) : wkB l G (d + 1) n_X1_takeTell Q 135 [.ref 3, .int a1] [] I L R :=
  bb_aload_n (n := 0) (i := 0) (zd (i := .aload_n 0) (n := 1) (by decide +kernel)) rfl rfl <|
  bb_aload_n (n := 0) (i := 0) (zd (i := .aload_n 0) (n := 1) (by decide +kernel)) rfl rfl <|
  bb_geti (k := 3) (ci := 1) (j := 3) (idx := 29) (zd (i := .getfield 29) (n := 3) (by decide +kernel)) (by decide +kernel) (by decide +kernel) (by decide +kernel) (by decide +kernel) rfl g338 <|
  bb_lift (fun _ => q_bipush (n := 59) (zd (i := .bipush (59)) (n := 2) (by decide +kernel)) rfl) <|
  (fun lv hl => q_icmp_ne (off := 7) (tgt := 149) (zd (i := .if_icmp .ne (7)) (n := 3) (by decide +kernel)) (by decide) (fun h => (kt h) lv hl) (fun h => (kf h) lv hl))
theorem w_X1_takeTell_145 {Q : qQ} {I : qMI} {L : qML} {R : qMR} {a1 : Int32} (k : wkB l G (d + 1) n_X1_takeTell Q 150 [.ref 3, .int a1] [.int 1, .ref 3] I L R) : wkB l G (d + 1) n_X1_takeTell Q 145 [.ref 3, .int a1] [.ref 3] I L R :=
  bb_lift (fun _ => q_iconst (n := 1) (zd (i := .iconst (1)) (n := 1) (by decide +kernel)) rfl) <|
  bb_lift (fun _ => q_goto (off := 4) (tgt := 150) (zd (i := .goto (4)) (n := 3) (by decide +kernel)) (by decide)) k
theorem w_X1_takeTell_149 {Q : qQ} {I : qMI} {L : qML} {R : qMR} {a1 : Int32} (k : wkB l G (d + 1) n_X1_takeTell Q 150 [.ref 3, .int a1] [.int 0, .ref 3] I L R) : wkB l G (d + 1) n_X1_takeTell Q 149 [.ref 3, .int a1] [.ref 3] I L R :=
  bb_lift (fun _ => q_iconst (n := 0) (zd (i := .iconst (0)) (n := 1) (by decide +kernel)) rfl) <|
  k
theorem w_X1_takeTell_150 {Q : qQ} {I : qMI} {L : qML} {R : qMR} {a1 : Int32} {s1 : Int32} {P : qMI → qML → qMR → Prop} (hc : wkCv l G d n_X1_take [.ref 3, .int s1] I L R P) (kk : ∀ I' L' R', P I' L' R' → wkB l G (d + 1) n_X1_takeTell Q 153 [.ref 3, .int a1] [] I' L' R') : wkB l G (d + 1) n_X1_takeTell Q 150 [.ref 3, .int a1] [.int s1, .ref 3] I L R :=
  bb_callV (idx := 71) (k := 3) (ci := 1) (N := n_X1_take) (As := [.int s1]) (st := []) (zd (i := .invokevirtual 71) (n := 3) (by decide +kernel)) to_X1_take g626 g628 g7 (Nat.le_of_ble_eq_true rfl) (by decide +kernel) (by decide +kernel) (by decide +kernel) rfl rfl rfl hc (fun r I' L' R' hq => by obtain ⟨rfl, hp⟩ := hq; exact kk I' L' R' hp)
theorem w_X1_takeTell_153 {Q : qQ} {I : qMI} {L : qML} {R : qMR} {a1 : Int32} (hQ : Q none 336 I L R) : wkB l G (d + 1) n_X1_takeTell Q 153 [.ref 3, .int a1] [] I L R :=
  (fun lv hl => q_vret (zd (i := .return_) (n := 1) (by decide +kernel)) rfl (Nat.le_refl _) (Nat.le_refl _) hQ)
theorem w_X1_takeLaw_0 {Q : qQ} {I : qMI} {L : qML} {R : qMR} {a1 : Int32} (kt : ¬ (I 3 3) = 61 → wkB l G (d + 1) n_X1_takeLaw Q 14 [.ref 3, .int a1, wkU, wkU] [.ref 3] I L R) (kf : (I 3 3) = 61 → wkB l G (d + 1) n_X1_takeLaw Q 10 [.ref 3, .int a1, wkU, wkU] [.ref 3] I L R) : wkB l G (d + 1) n_X1_takeLaw Q 0 [.ref 3, .int a1, wkU, wkU] [] I L R :=
  bb_aload_n (n := 0) (i := 0) (zd (i := .aload_n 0) (n := 1) (by decide +kernel)) rfl rfl <|
  bb_aload_n (n := 0) (i := 0) (zd (i := .aload_n 0) (n := 1) (by decide +kernel)) rfl rfl <|
  bb_geti (k := 3) (ci := 1) (j := 3) (idx := 29) (zd (i := .getfield 29) (n := 3) (by decide +kernel)) (by decide +kernel) (by decide +kernel) (by decide +kernel) (by decide +kernel) rfl g338 <|
  bb_lift (fun _ => q_bipush (n := 61) (zd (i := .bipush (61)) (n := 2) (by decide +kernel)) rfl) <|
  (fun lv hl => q_icmp_ne (off := 7) (tgt := 14) (zd (i := .if_icmp .ne (7)) (n := 3) (by decide +kernel)) (by decide) (fun h => (kt h) lv hl) (fun h => (kf h) lv hl))
theorem w_X1_takeLaw_10 {Q : qQ} {I : qMI} {L : qML} {R : qMR} {a1 : Int32} (k : wkB l G (d + 1) n_X1_takeLaw Q 15 [.ref 3, .int a1, wkU, wkU] [.int 1, .ref 3] I L R) : wkB l G (d + 1) n_X1_takeLaw Q 10 [.ref 3, .int a1, wkU, wkU] [.ref 3] I L R :=
  bb_lift (fun _ => q_iconst (n := 1) (zd (i := .iconst (1)) (n := 1) (by decide +kernel)) rfl) <|
  bb_lift (fun _ => q_goto (off := 4) (tgt := 15) (zd (i := .goto (4)) (n := 3) (by decide +kernel)) (by decide)) k
theorem w_X1_takeLaw_14 {Q : qQ} {I : qMI} {L : qML} {R : qMR} {a1 : Int32} (k : wkB l G (d + 1) n_X1_takeLaw Q 15 [.ref 3, .int a1, wkU, wkU] [.int 0, .ref 3] I L R) : wkB l G (d + 1) n_X1_takeLaw Q 14 [.ref 3, .int a1, wkU, wkU] [.ref 3] I L R :=
  bb_lift (fun _ => q_iconst (n := 0) (zd (i := .iconst (0)) (n := 1) (by decide +kernel)) rfl) <|
  k
theorem w_X1_takeLaw_15 {Q : qQ} {I : qMI} {L : qML} {R : qMR} {a1 : Int32} {s1 : Int32} {P : qMI → qML → qMR → Prop} (hc : wkCv l G d n_X1_take [.ref 3, .int s1] I L R P) (kk : ∀ I' L' R', P I' L' R' → wkB l G (d + 1) n_X1_takeLaw Q 18 [.ref 3, .int a1, wkU, wkU] [] I' L' R') : wkB l G (d + 1) n_X1_takeLaw Q 15 [.ref 3, .int a1, wkU, wkU] [.int s1, .ref 3] I L R :=
  bb_callV (idx := 71) (k := 3) (ci := 1) (N := n_X1_take) (As := [.int s1]) (st := []) (zd (i := .invokevirtual 71) (n := 3) (by decide +kernel)) to_X1_take g626 g628 g7 (Nat.le_of_ble_eq_true rfl) (by decide +kernel) (by decide +kernel) (by decide +kernel) rfl rfl rfl hc (fun r I' L' R' hq => by obtain ⟨rfl, hp⟩ := hq; exact kk I' L' R' hp)
theorem w_X1_takeLaw_18 {Q : qQ} {I : qMI} {L : qML} {R : qMR} {o : Nat} (ho : o = 9 ∨ o = 259) {a1 : Int32} (h1 : R 3 1 = some o) (h2 : R o 12 = some (o + 6)) {P : qMI → qML → qMR → Prop} (hc : wkCv l G d n_X2_open [.ref (o + 6), .int a1] I L R P) (kk : ∀ I' L' R', P I' L' R' → wkB l G (d + 1) n_X1_takeLaw Q 29 [.ref 3, .int a1, wkU, wkU] [] I' L' R') : wkB l G (d + 1) n_X1_takeLaw Q 18 [.ref 3, .int a1, wkU, wkU] [] I L R :=
  bb_aload_n (n := 0) (i := 0) (zd (i := .aload_n 0) (n := 1) (by decide +kernel)) rfl rfl <|
  bb_getr (k := 3) (ci := 1) (j := 1) (idx := 21) (a := o) (zd (i := .getfield 21) (n := 3) (by decide +kernel)) (by decide +kernel) (by decide +kernel) (by decide +kernel) (by decide +kernel) rfl g336 h1 <|
  bb_getr (k := o) (ci := 0) (j := 12) (idx := 116) (a := (o + 6)) (zd (i := .getfield 116) (n := 3) (by decide +kernel)) (by rcases ho with rfl | rfl <;> decide +kernel) (by rcases ho with rfl | rfl <;> decide +kernel) (by decide +kernel) (by decide +kernel) rfl g307 h2 <|
  bb_iload_n (n := 1) (i := 1) (zd (i := .iload_n 1) (n := 1) (by decide +kernel)) rfl rfl <|
  bb_callV (idx := 120) (k := (o + 6)) (ci := 2) (N := n_X2_open) (As := [.int a1]) (st := []) (zd (i := .invokevirtual 120) (n := 3) (by decide +kernel)) to_X2_open g654 g269 g270 (Nat.le_of_ble_eq_true rfl) (by rcases ho with rfl | rfl <;> decide +kernel) (by rcases ho with rfl | rfl <;> decide +kernel) (by decide +kernel) rfl rfl rfl hc (fun r I' L' R' hq => by obtain ⟨rfl, hp⟩ := hq; exact kk I' L' R' hp)
theorem w_X1_takeLaw_29 {Q : qQ} {I : qMI} {L : qML} {R : qMR} {a1 : Int32} (k : wkB l G (d + 1) n_X1_takeLaw Q 31 [.ref 3, .int a1, .int 0, wkU] [] I L R) : wkB l G (d + 1) n_X1_takeLaw Q 29 [.ref 3, .int a1, wkU, wkU] [] I L R :=
  bb_lift (fun _ => q_iconst (n := 0) (zd (i := .iconst (0)) (n := 1) (by decide +kernel)) rfl) <|
  bb_istore_n (n := 2) (i := 2) (zd (i := .istore_n 2) (n := 1) (by decide +kernel)) rfl (by decide +kernel) (wkNl_i rfl) <|
  k
theorem w_X1_takeLaw_31 {Q : qQ} {I : qMI} {L : qML} {R : qMR} {a1 : Int32} {a2 : Int32} (kt : 4 < a2 → wkB l G (d + 1) n_X1_takeLaw Q 184 [.ref 3, .int a1, .int a2, wkU] [] I L R) (kf : ¬ 4 < a2 → wkB l G (d + 1) n_X1_takeLaw Q 36 [.ref 3, .int a1, .int a2, wkU] [] I L R) : wkB l G (d + 1) n_X1_takeLaw Q 31 [.ref 3, .int a1, .int a2, wkU] [] I L R :=
  bb_iload_n (n := 2) (i := 2) (zd (i := .iload_n 2) (n := 1) (by decide +kernel)) rfl rfl <|
  bb_lift (fun _ => q_iconst (n := 4) (zd (i := .iconst (4)) (n := 1) (by decide +kernel)) rfl) <|
  (fun lv hl => q_icmp_gt (off := 151) (tgt := 184) (zd (i := .if_icmp .gt (151)) (n := 3) (by decide +kernel)) (by decide) (fun h => (kt h) lv hl) (fun h => (kf h) lv hl))
theorem w_X1_takeLaw_36 {Q : qQ} {I : qMI} {L : qML} {R : qMR} {a1 : Int32} {a2 : Int32} (kt : ¬ (I 3 4) = 0 → wkB l G (d + 1) n_X1_takeLaw Q 184 [.ref 3, .int a1, .int a2, wkU] [] I L R) (kf : (I 3 4) = 0 → wkB l G (d + 1) n_X1_takeLaw Q 43 [.ref 3, .int a1, .int a2, wkU] [] I L R) : wkB l G (d + 1) n_X1_takeLaw Q 36 [.ref 3, .int a1, .int a2, wkU] [] I L R :=
  bb_aload_n (n := 0) (i := 0) (zd (i := .aload_n 0) (n := 1) (by decide +kernel)) rfl rfl <|
  bb_geti (k := 3) (ci := 1) (j := 4) (idx := 32) (zd (i := .getfield 32) (n := 3) (by decide +kernel)) (by decide +kernel) (by decide +kernel) (by decide +kernel) (by decide +kernel) rfl g339 <|
  (fun lv hl => q_if_ne (off := 144) (tgt := 184) (zd (i := .ifCond .ne (144)) (n := 3) (by decide +kernel)) (by decide) (fun h => (kt h) lv hl) (fun h => (kf h) lv hl))
theorem w_X1_takeLaw_43 {Q : qQ} {I : qMI} {L : qML} {R : qMR} {a1 : Int32} {a2 : Int32} (kt : ¬ (I 3 3) = 139 → wkB l G (d + 1) n_X1_takeLaw Q 184 [.ref 3, .int a1, .int a2, wkU] [] I L R) (kf : (I 3 3) = 139 → wkB l G (d + 1) n_X1_takeLaw Q 53 [.ref 3, .int a1, .int a2, wkU] [] I L R) : wkB l G (d + 1) n_X1_takeLaw Q 43 [.ref 3, .int a1, .int a2, wkU] [] I L R :=
  bb_aload_n (n := 0) (i := 0) (zd (i := .aload_n 0) (n := 1) (by decide +kernel)) rfl rfl <|
  bb_geti (k := 3) (ci := 1) (j := 3) (idx := 29) (zd (i := .getfield 29) (n := 3) (by decide +kernel)) (by decide +kernel) (by decide +kernel) (by decide +kernel) (by decide +kernel) rfl g338 <|
  bb_lift (fun _ => q_sipush (n := 139) (zd (i := .sipush (139)) (n := 3) (by decide +kernel)) rfl) <|
  (fun lv hl => q_icmp_ne (off := 134) (tgt := 184) (zd (i := .if_icmp .ne (134)) (n := 3) (by decide +kernel)) (by decide) (fun h => (kt h) lv hl) (fun h => (kf h) lv hl))
theorem w_X1_takeLaw_53 {Q : qQ} {I : qMI} {L : qML} {R : qMR} {a1 : Int32} {a2 : Int32} (kt : ¬ a2 = 4 → wkB l G (d + 1) n_X1_takeLaw Q 63 [.ref 3, .int a1, .int a2, wkU] [] I L R) (kf : a2 = 4 → wkB l G (d + 1) n_X1_takeLaw Q 58 [.ref 3, .int a1, .int a2, wkU] [] I L R) : wkB l G (d + 1) n_X1_takeLaw Q 53 [.ref 3, .int a1, .int a2, wkU] [] I L R :=
  bb_iload_n (n := 2) (i := 2) (zd (i := .iload_n 2) (n := 1) (by decide +kernel)) rfl rfl <|
  bb_lift (fun _ => q_iconst (n := 4) (zd (i := .iconst (4)) (n := 1) (by decide +kernel)) rfl) <|
  (fun lv hl => q_icmp_ne (off := 8) (tgt := 63) (zd (i := .if_icmp .ne (8)) (n := 3) (by decide +kernel)) (by decide) (fun h => (kt h) lv hl) (fun h => (kf h) lv hl))
theorem w_X1_takeLaw_58 {Q : qQ} {I : qMI} {L : qML} {R : qMR} {a1 : Int32} {a2 : Int32} {P : qMI → qML → qMR → Prop} (hc : wkCv l G d n_X1_fail [.ref 3, .int 2] I L R P) (kk : ∀ I' L' R', P I' L' R' → wkB l G (d + 1) n_X1_takeLaw Q 63 [.ref 3, .int a1, .int a2, wkU] [] I' L' R') : wkB l G (d + 1) n_X1_takeLaw Q 58 [.ref 3, .int a1, .int a2, wkU] [] I L R :=
  bb_aload_n (n := 0) (i := 0) (zd (i := .aload_n 0) (n := 1) (by decide +kernel)) rfl rfl <|
  bb_lift (fun _ => q_iconst (n := 2) (zd (i := .iconst (2)) (n := 1) (by decide +kernel)) rfl) <|
  bb_callV (idx := 67) (k := 3) (ci := 1) (N := n_X1_fail) (As := [.int 2]) (st := []) (zd (i := .invokevirtual 67) (n := 3) (by decide +kernel)) to_X1_fail g622 g624 g6 (Nat.le_of_ble_eq_true rfl) (by decide +kernel) (by decide +kernel) (by decide +kernel) rfl rfl rfl hc (fun r I' L' R' hq => by obtain ⟨rfl, hp⟩ := hq; exact kk I' L' R' hp)
theorem w_X1_takeLaw_63 {Q : qQ} {I : qMI} {L : qML} {R : qMR} {a1 : Int32} {a2 : Int32} {P : qMI → qML → qMR → Prop} (hc : wkCv l G d n_X1_take [.ref 3, .int 1] I L R P) (kk : ∀ I' L' R', P I' L' R' → wkB l G (d + 1) n_X1_takeLaw Q 68 [.ref 3, .int a1, .int a2, wkU] [] I' L' R') : wkB l G (d + 1) n_X1_takeLaw Q 63 [.ref 3, .int a1, .int a2, wkU] [] I L R :=
  bb_aload_n (n := 0) (i := 0) (zd (i := .aload_n 0) (n := 1) (by decide +kernel)) rfl rfl <|
  bb_lift (fun _ => q_iconst (n := 1) (zd (i := .iconst (1)) (n := 1) (by decide +kernel)) rfl) <|
  bb_callV (idx := 71) (k := 3) (ci := 1) (N := n_X1_take) (As := [.int 1]) (st := []) (zd (i := .invokevirtual 71) (n := 3) (by decide +kernel)) to_X1_take g626 g628 g7 (Nat.le_of_ble_eq_true rfl) (by decide +kernel) (by decide +kernel) (by decide +kernel) rfl rfl rfl hc (fun r I' L' R' hq => by obtain ⟨rfl, hp⟩ := hq; exact kk I' L' R' hp)
theorem w_X1_takeLaw_68 {Q : qQ} {I : qMI} {L : qML} {R : qMR} {a1 : Int32} {a2 : Int32} {P : qMI → qML → qMR → Prop} (hc : wkCv l G d n_X1_takeSum [.ref 3, .int 0] I L R P) (kk : ∀ I' L' R', P I' L' R' → wkB l G (d + 1) n_X1_takeLaw Q 73 [.ref 3, .int a1, .int a2, wkU] [] I' L' R') : wkB l G (d + 1) n_X1_takeLaw Q 68 [.ref 3, .int a1, .int a2, wkU] [] I L R :=
  bb_aload_n (n := 0) (i := 0) (zd (i := .aload_n 0) (n := 1) (by decide +kernel)) rfl rfl <|
  bb_lift (fun _ => q_iconst (n := 0) (zd (i := .iconst (0)) (n := 1) (by decide +kernel)) rfl) <|
  bb_callV (idx := 125) (k := 3) (ci := 1) (N := n_X1_takeSum) (As := [.int 0]) (st := []) (zd (i := .invokevirtual 125) (n := 3) (by decide +kernel)) to_X1_takeSum g655 g657 g12 (Nat.le_of_ble_eq_true rfl) (by decide +kernel) (by decide +kernel) (by decide +kernel) rfl rfl rfl hc (fun r I' L' R' hq => by obtain ⟨rfl, hp⟩ := hq; exact kk I' L' R' hp)
theorem w_X1_takeLaw_73 {Q : qQ} {I : qMI} {L : qML} {R : qMR} {a1 : Int32} {a2 : Int32} (kt : ¬ (I 3 3) = 60 → wkB l G (d + 1) n_X1_takeLaw Q 87 [.ref 3, .int a1, .int a2, wkU] [.ref 3] I L R) (kf : (I 3 3) = 60 → wkB l G (d + 1) n_X1_takeLaw Q 83 [.ref 3, .int a1, .int a2, wkU] [.ref 3] I L R) : wkB l G (d + 1) n_X1_takeLaw Q 73 [.ref 3, .int a1, .int a2, wkU] [] I L R :=
  bb_aload_n (n := 0) (i := 0) (zd (i := .aload_n 0) (n := 1) (by decide +kernel)) rfl rfl <|
  bb_aload_n (n := 0) (i := 0) (zd (i := .aload_n 0) (n := 1) (by decide +kernel)) rfl rfl <|
  bb_geti (k := 3) (ci := 1) (j := 3) (idx := 29) (zd (i := .getfield 29) (n := 3) (by decide +kernel)) (by decide +kernel) (by decide +kernel) (by decide +kernel) (by decide +kernel) rfl g338 <|
  bb_lift (fun _ => q_bipush (n := 60) (zd (i := .bipush (60)) (n := 2) (by decide +kernel)) rfl) <|
  (fun lv hl => q_icmp_ne (off := 7) (tgt := 87) (zd (i := .if_icmp .ne (7)) (n := 3) (by decide +kernel)) (by decide) (fun h => (kt h) lv hl) (fun h => (kf h) lv hl))
theorem w_X1_takeLaw_83 {Q : qQ} {I : qMI} {L : qML} {R : qMR} {a1 : Int32} {a2 : Int32} (k : wkB l G (d + 1) n_X1_takeLaw Q 88 [.ref 3, .int a1, .int a2, wkU] [.int 1, .ref 3] I L R) : wkB l G (d + 1) n_X1_takeLaw Q 83 [.ref 3, .int a1, .int a2, wkU] [.ref 3] I L R :=
  bb_lift (fun _ => q_iconst (n := 1) (zd (i := .iconst (1)) (n := 1) (by decide +kernel)) rfl) <|
  bb_lift (fun _ => q_goto (off := 4) (tgt := 88) (zd (i := .goto (4)) (n := 3) (by decide +kernel)) (by decide)) k
theorem w_X1_takeLaw_87 {Q : qQ} {I : qMI} {L : qML} {R : qMR} {a1 : Int32} {a2 : Int32} (k : wkB l G (d + 1) n_X1_takeLaw Q 88 [.ref 3, .int a1, .int a2, wkU] [.int 0, .ref 3] I L R) : wkB l G (d + 1) n_X1_takeLaw Q 87 [.ref 3, .int a1, .int a2, wkU] [.ref 3] I L R :=
  bb_lift (fun _ => q_iconst (n := 0) (zd (i := .iconst (0)) (n := 1) (by decide +kernel)) rfl) <|
  k
theorem w_X1_takeLaw_88 {Q : qQ} {I : qMI} {L : qML} {R : qMR} {a1 : Int32} {a2 : Int32} {s1 : Int32} {P : qMI → qML → qMR → Prop} (hc : wkCv l G d n_X1_take [.ref 3, .int s1] I L R P) (kk : ∀ I' L' R', P I' L' R' → wkB l G (d + 1) n_X1_takeLaw Q 91 [.ref 3, .int a1, .int a2, wkU] [] I' L' R') : wkB l G (d + 1) n_X1_takeLaw Q 88 [.ref 3, .int a1, .int a2, wkU] [.int s1, .ref 3] I L R :=
  bb_callV (idx := 71) (k := 3) (ci := 1) (N := n_X1_take) (As := [.int s1]) (st := []) (zd (i := .invokevirtual 71) (n := 3) (by decide +kernel)) to_X1_take g626 g628 g7 (Nat.le_of_ble_eq_true rfl) (by decide +kernel) (by decide +kernel) (by decide +kernel) rfl rfl rfl hc (fun r I' L' R' hq => by obtain ⟨rfl, hp⟩ := hq; exact kk I' L' R' hp)
theorem w_X1_takeLaw_91 {Q : qQ} {I : qMI} {L : qML} {R : qMR} {a1 : Int32} {a2 : Int32} {P : qMI → qML → qMR → Prop} (hc : wkCv l G d n_X1_takeSum [.ref 3, .int 0] I L R P) (kk : ∀ I' L' R', P I' L' R' → wkB l G (d + 1) n_X1_takeLaw Q 96 [.ref 3, .int a1, .int a2, wkU] [] I' L' R') : wkB l G (d + 1) n_X1_takeLaw Q 91 [.ref 3, .int a1, .int a2, wkU] [] I L R :=
  bb_aload_n (n := 0) (i := 0) (zd (i := .aload_n 0) (n := 1) (by decide +kernel)) rfl rfl <|
  bb_lift (fun _ => q_iconst (n := 0) (zd (i := .iconst (0)) (n := 1) (by decide +kernel)) rfl) <|
  bb_callV (idx := 125) (k := 3) (ci := 1) (N := n_X1_takeSum) (As := [.int 0]) (st := []) (zd (i := .invokevirtual 125) (n := 3) (by decide +kernel)) to_X1_takeSum g655 g657 g12 (Nat.le_of_ble_eq_true rfl) (by decide +kernel) (by decide +kernel) (by decide +kernel) rfl rfl rfl hc (fun r I' L' R' hq => by obtain ⟨rfl, hp⟩ := hq; exact kk I' L' R' hp)
theorem w_X1_takeLaw_96 {Q : qQ} {I : qMI} {L : qML} {R : qMR} {a1 : Int32} {a2 : Int32} (kt : ¬ (I 3 3) = 140 → wkB l G (d + 1) n_X1_takeLaw Q 111 [.ref 3, .int a1, .int a2, wkU] [.ref 3] I L R) (kf : (I 3 3) = 140 → wkB l G (d + 1) n_X1_takeLaw Q 107 [.ref 3, .int a1, .int a2, wkU] [.ref 3] I L R) : wkB l G (d + 1) n_X1_takeLaw Q 96 [.ref 3, .int a1, .int a2, wkU] [] I L R :=
  bb_aload_n (n := 0) (i := 0) (zd (i := .aload_n 0) (n := 1) (by decide +kernel)) rfl rfl <|
  bb_aload_n (n := 0) (i := 0) (zd (i := .aload_n 0) (n := 1) (by decide +kernel)) rfl rfl <|
  bb_geti (k := 3) (ci := 1) (j := 3) (idx := 29) (zd (i := .getfield 29) (n := 3) (by decide +kernel)) (by decide +kernel) (by decide +kernel) (by decide +kernel) (by decide +kernel) rfl g338 <|
  bb_lift (fun _ => q_sipush (n := 140) (zd (i := .sipush (140)) (n := 3) (by decide +kernel)) rfl) <|
  (fun lv hl => q_icmp_ne (off := 7) (tgt := 111) (zd (i := .if_icmp .ne (7)) (n := 3) (by decide +kernel)) (by decide) (fun h => (kt h) lv hl) (fun h => (kf h) lv hl))
theorem w_X1_takeLaw_107 {Q : qQ} {I : qMI} {L : qML} {R : qMR} {a1 : Int32} {a2 : Int32} (k : wkB l G (d + 1) n_X1_takeLaw Q 112 [.ref 3, .int a1, .int a2, wkU] [.int 1, .ref 3] I L R) : wkB l G (d + 1) n_X1_takeLaw Q 107 [.ref 3, .int a1, .int a2, wkU] [.ref 3] I L R :=
  bb_lift (fun _ => q_iconst (n := 1) (zd (i := .iconst (1)) (n := 1) (by decide +kernel)) rfl) <|
  bb_lift (fun _ => q_goto (off := 4) (tgt := 112) (zd (i := .goto (4)) (n := 3) (by decide +kernel)) (by decide)) k
theorem w_X1_takeLaw_111 {Q : qQ} {I : qMI} {L : qML} {R : qMR} {a1 : Int32} {a2 : Int32} (k : wkB l G (d + 1) n_X1_takeLaw Q 112 [.ref 3, .int a1, .int a2, wkU] [.int 0, .ref 3] I L R) : wkB l G (d + 1) n_X1_takeLaw Q 111 [.ref 3, .int a1, .int a2, wkU] [.ref 3] I L R :=
  bb_lift (fun _ => q_iconst (n := 0) (zd (i := .iconst (0)) (n := 1) (by decide +kernel)) rfl) <|
  k
theorem w_X1_takeLaw_112 {Q : qQ} {I : qMI} {L : qML} {R : qMR} {a1 : Int32} {a2 : Int32} {s1 : Int32} {P : qMI → qML → qMR → Prop} (hc : wkCv l G d n_X1_take [.ref 3, .int s1] I L R P) (kk : ∀ I' L' R', P I' L' R' → wkB l G (d + 1) n_X1_takeLaw Q 115 [.ref 3, .int a1, .int a2, wkU] [] I' L' R') : wkB l G (d + 1) n_X1_takeLaw Q 112 [.ref 3, .int a1, .int a2, wkU] [.int s1, .ref 3] I L R :=
  bb_callV (idx := 71) (k := 3) (ci := 1) (N := n_X1_take) (As := [.int s1]) (st := []) (zd (i := .invokevirtual 71) (n := 3) (by decide +kernel)) to_X1_take g626 g628 g7 (Nat.le_of_ble_eq_true rfl) (by decide +kernel) (by decide +kernel) (by decide +kernel) rfl rfl rfl hc (fun r I' L' R' hq => by obtain ⟨rfl, hp⟩ := hq; exact kk I' L' R' hp)
theorem w_X1_takeLaw_115 {Q : qQ} {I : qMI} {L : qML} {R : qMR} {o : Nat} (ho : o = 9 ∨ o = 259) {a1 : Int32} {a2 : Int32} (h1 : R 3 1 = some o) (h2 : R o 12 = some (o + 6)) {P : Int32 → qMI → qML → qMR → Prop} (hc : wkCi l G d n_X2_emit [.ref (o + 6), .int 6, .int 0] I L R P) (kk : ∀ y I' L' R', P y I' L' R' → wkB l G (d + 1) n_X1_takeLaw Q 128 [.ref 3, .int a1, .int a2, wkU] [.int y] I' L' R') : wkB l G (d + 1) n_X1_takeLaw Q 115 [.ref 3, .int a1, .int a2, wkU] [] I L R :=
  bb_aload_n (n := 0) (i := 0) (zd (i := .aload_n 0) (n := 1) (by decide +kernel)) rfl rfl <|
  bb_getr (k := 3) (ci := 1) (j := 1) (idx := 21) (a := o) (zd (i := .getfield 21) (n := 3) (by decide +kernel)) (by decide +kernel) (by decide +kernel) (by decide +kernel) (by decide +kernel) rfl g336 h1 <|
  bb_getr (k := o) (ci := 0) (j := 12) (idx := 116) (a := (o + 6)) (zd (i := .getfield 116) (n := 3) (by decide +kernel)) (by rcases ho with rfl | rfl <;> decide +kernel) (by rcases ho with rfl | rfl <;> decide +kernel) (by decide +kernel) (by decide +kernel) rfl g307 h2 <|
  bb_lift (fun _ => q_bipush (n := 6) (zd (i := .bipush (6)) (n := 2) (by decide +kernel)) rfl) <|
  bb_lift (fun _ => q_iconst (n := 0) (zd (i := .iconst (0)) (n := 1) (by decide +kernel)) rfl) <|
  bb_callV (idx := 128) (k := (o + 6)) (ci := 2) (N := n_X2_emit) (As := [.int 6, .int 0]) (st := []) (zd (i := .invokevirtual 128) (n := 3) (by decide +kernel)) to_X2_emit g667 g273 g274 (Nat.le_of_ble_eq_true rfl) (by rcases ho with rfl | rfl <;> decide +kernel) (by rcases ho with rfl | rfl <;> decide +kernel) (by decide +kernel) rfl rfl rfl hc (fun r I' L' R' hq => by obtain ⟨y, rfl, hp⟩ := hq; exact kk y I' L' R' hp)
theorem w_X1_takeLaw_128 {Q : qQ} {I : qMI} {L : qML} {R : qMR} {a1 : Int32} {a2 : Int32} {s0 : Int32} {P : qMI → qML → qMR → Prop} (hc : wkCv l G d n_X1_takeSum [.ref 3, .int 0] I L R P) (kk : ∀ I' L' R', P I' L' R' → wkB l G (d + 1) n_X1_takeLaw Q 134 [.ref 3, .int a1, .int a2, .int s0] [] I' L' R') : wkB l G (d + 1) n_X1_takeLaw Q 128 [.ref 3, .int a1, .int a2, wkU] [.int s0] I L R :=
  bb_istore_n (n := 3) (i := 3) (zd (i := .istore_n 3) (n := 1) (by decide +kernel)) rfl (by decide +kernel) (wkNl_i rfl) <|
  bb_aload_n (n := 0) (i := 0) (zd (i := .aload_n 0) (n := 1) (by decide +kernel)) rfl rfl <|
  bb_lift (fun _ => q_iconst (n := 0) (zd (i := .iconst (0)) (n := 1) (by decide +kernel)) rfl) <|
  bb_callV (idx := 125) (k := 3) (ci := 1) (N := n_X1_takeSum) (As := [.int 0]) (st := []) (zd (i := .invokevirtual 125) (n := 3) (by decide +kernel)) to_X1_takeSum g655 g657 g12 (Nat.le_of_ble_eq_true rfl) (by decide +kernel) (by decide +kernel) (by decide +kernel) rfl rfl rfl hc (fun r I' L' R' hq => by obtain ⟨rfl, hp⟩ := hq; exact kk I' L' R' hp)
theorem w_X1_takeLaw_134 {Q : qQ} {I : qMI} {L : qML} {R : qMR} {a1 : Int32} {a2 : Int32} {a3 : Int32} (kt : ¬ (I 3 3) = 141 → wkB l G (d + 1) n_X1_takeLaw Q 149 [.ref 3, .int a1, .int a2, .int a3] [.ref 3] I L R) (kf : (I 3 3) = 141 → wkB l G (d + 1) n_X1_takeLaw Q 145 [.ref 3, .int a1, .int a2, .int a3] [.ref 3] I L R) : wkB l G (d + 1) n_X1_takeLaw Q 134 [.ref 3, .int a1, .int a2, .int a3] [] I L R :=
  bb_aload_n (n := 0) (i := 0) (zd (i := .aload_n 0) (n := 1) (by decide +kernel)) rfl rfl <|
  bb_aload_n (n := 0) (i := 0) (zd (i := .aload_n 0) (n := 1) (by decide +kernel)) rfl rfl <|
  bb_geti (k := 3) (ci := 1) (j := 3) (idx := 29) (zd (i := .getfield 29) (n := 3) (by decide +kernel)) (by decide +kernel) (by decide +kernel) (by decide +kernel) (by decide +kernel) rfl g338 <|
  bb_lift (fun _ => q_sipush (n := 141) (zd (i := .sipush (141)) (n := 3) (by decide +kernel)) rfl) <|
  (fun lv hl => q_icmp_ne (off := 7) (tgt := 149) (zd (i := .if_icmp .ne (7)) (n := 3) (by decide +kernel)) (by decide) (fun h => (kt h) lv hl) (fun h => (kf h) lv hl))
theorem w_X1_takeLaw_145 {Q : qQ} {I : qMI} {L : qML} {R : qMR} {a1 : Int32} {a2 : Int32} {a3 : Int32} (k : wkB l G (d + 1) n_X1_takeLaw Q 150 [.ref 3, .int a1, .int a2, .int a3] [.int 1, .ref 3] I L R) : wkB l G (d + 1) n_X1_takeLaw Q 145 [.ref 3, .int a1, .int a2, .int a3] [.ref 3] I L R :=
  bb_lift (fun _ => q_iconst (n := 1) (zd (i := .iconst (1)) (n := 1) (by decide +kernel)) rfl) <|
  bb_lift (fun _ => q_goto (off := 4) (tgt := 150) (zd (i := .goto (4)) (n := 3) (by decide +kernel)) (by decide)) k
theorem w_X1_takeLaw_149 {Q : qQ} {I : qMI} {L : qML} {R : qMR} {a1 : Int32} {a2 : Int32} {a3 : Int32} (k : wkB l G (d + 1) n_X1_takeLaw Q 150 [.ref 3, .int a1, .int a2, .int a3] [.int 0, .ref 3] I L R) : wkB l G (d + 1) n_X1_takeLaw Q 149 [.ref 3, .int a1, .int a2, .int a3] [.ref 3] I L R :=
  bb_lift (fun _ => q_iconst (n := 0) (zd (i := .iconst (0)) (n := 1) (by decide +kernel)) rfl) <|
  k
theorem w_X1_takeLaw_150 {Q : qQ} {I : qMI} {L : qML} {R : qMR} {a1 : Int32} {a2 : Int32} {a3 : Int32} {s1 : Int32} {P : qMI → qML → qMR → Prop} (hc : wkCv l G d n_X1_take [.ref 3, .int s1] I L R P) (kk : ∀ I' L' R', P I' L' R' → wkB l G (d + 1) n_X1_takeLaw Q 153 [.ref 3, .int a1, .int a2, .int a3] [] I' L' R') : wkB l G (d + 1) n_X1_takeLaw Q 150 [.ref 3, .int a1, .int a2, .int a3] [.int s1, .ref 3] I L R :=
  bb_callV (idx := 71) (k := 3) (ci := 1) (N := n_X1_take) (As := [.int s1]) (st := []) (zd (i := .invokevirtual 71) (n := 3) (by decide +kernel)) to_X1_take g626 g628 g7 (Nat.le_of_ble_eq_true rfl) (by decide +kernel) (by decide +kernel) (by decide +kernel) rfl rfl rfl hc (fun r I' L' R' hq => by obtain ⟨rfl, hp⟩ := hq; exact kk I' L' R' hp)
theorem w_X1_takeLaw_153 {Q : qQ} {I : qMI} {L : qML} {R : qMR} {o : Nat} (ho : o = 9 ∨ o = 259) {a1 : Int32} {a2 : Int32} {a3 : Int32} (h1 : R 3 1 = some o) (h2 : R o 12 = some (o + 6)) {P : Int32 → qMI → qML → qMR → Prop} (hc : wkCi l G d n_X2_emit [.ref (o + 6), .int 7, .int 0] I L R P) (kk : ∀ y I' L' R', P y I' L' R' → wkB l G (d + 1) n_X1_takeLaw Q 166 [.ref 3, .int a1, .int a2, .int a3] [.int y] I' L' R') : wkB l G (d + 1) n_X1_takeLaw Q 153 [.ref 3, .int a1, .int a2, .int a3] [] I L R :=
  bb_aload_n (n := 0) (i := 0) (zd (i := .aload_n 0) (n := 1) (by decide +kernel)) rfl rfl <|
  bb_getr (k := 3) (ci := 1) (j := 1) (idx := 21) (a := o) (zd (i := .getfield 21) (n := 3) (by decide +kernel)) (by decide +kernel) (by decide +kernel) (by decide +kernel) (by decide +kernel) rfl g336 h1 <|
  bb_getr (k := o) (ci := 0) (j := 12) (idx := 116) (a := (o + 6)) (zd (i := .getfield 116) (n := 3) (by decide +kernel)) (by rcases ho with rfl | rfl <;> decide +kernel) (by rcases ho with rfl | rfl <;> decide +kernel) (by decide +kernel) (by decide +kernel) rfl g307 h2 <|
  bb_lift (fun _ => q_bipush (n := 7) (zd (i := .bipush (7)) (n := 2) (by decide +kernel)) rfl) <|
  bb_lift (fun _ => q_iconst (n := 0) (zd (i := .iconst (0)) (n := 1) (by decide +kernel)) rfl) <|
  bb_callV (idx := 128) (k := (o + 6)) (ci := 2) (N := n_X2_emit) (As := [.int 7, .int 0]) (st := []) (zd (i := .invokevirtual 128) (n := 3) (by decide +kernel)) to_X2_emit g667 g273 g274 (Nat.le_of_ble_eq_true rfl) (by rcases ho with rfl | rfl <;> decide +kernel) (by rcases ho with rfl | rfl <;> decide +kernel) (by decide +kernel) rfl rfl rfl hc (fun r I' L' R' hq => by obtain ⟨y, rfl, hp⟩ := hq; exact kk y I' L' R' hp)
theorem w_X1_takeLaw_166 {Q : qQ} {I : qMI} {L : qML} {R : qMR} {o : Nat} (ho : o = 9 ∨ o = 259) {a1 : Int32} {a2 : Int32} {a3 : Int32} {s0 : Int32} (h1 : R 3 1 = some o) (h2 : R o 12 = some (o + 6)) {P : qMI → qML → qMR → Prop} (hc : wkCv l G d n_X2_leadOnFrom [.ref (o + 6), .int a3] I L R P) (kk : ∀ I' L' R', P I' L' R' → wkB l G (d + 1) n_X1_takeLaw Q 178 [.ref 3, .int a1, .int a2, .int a3] [] I' L' R') : wkB l G (d + 1) n_X1_takeLaw Q 166 [.ref 3, .int a1, .int a2, .int a3] [.int s0] I L R :=
  bb_lift (fun _ => q_pop (zd (i := .pop) (n := 1) (by decide +kernel)) rfl) <|
  bb_aload_n (n := 0) (i := 0) (zd (i := .aload_n 0) (n := 1) (by decide +kernel)) rfl rfl <|
  bb_getr (k := 3) (ci := 1) (j := 1) (idx := 21) (a := o) (zd (i := .getfield 21) (n := 3) (by decide +kernel)) (by decide +kernel) (by decide +kernel) (by decide +kernel) (by decide +kernel) rfl g336 h1 <|
  bb_getr (k := o) (ci := 0) (j := 12) (idx := 116) (a := (o + 6)) (zd (i := .getfield 116) (n := 3) (by decide +kernel)) (by rcases ho with rfl | rfl <;> decide +kernel) (by rcases ho with rfl | rfl <;> decide +kernel) (by decide +kernel) (by decide +kernel) rfl g307 h2 <|
  bb_iload_n (n := 3) (i := 3) (zd (i := .iload_n 3) (n := 1) (by decide +kernel)) rfl rfl <|
  bb_callV (idx := 131) (k := (o + 6)) (ci := 2) (N := n_X2_leadOnFrom) (As := [.int a3]) (st := []) (zd (i := .invokevirtual 131) (n := 3) (by decide +kernel)) to_X2_leadOnFrom g668 g669 g670 (Nat.le_of_ble_eq_true rfl) (by rcases ho with rfl | rfl <;> decide +kernel) (by rcases ho with rfl | rfl <;> decide +kernel) (by decide +kernel) rfl rfl rfl hc (fun r I' L' R' hq => by obtain ⟨rfl, hp⟩ := hq; exact kk I' L' R' hp)
theorem w_X1_takeLaw_178 {Q : qQ} {I : qMI} {L : qML} {R : qMR} {a1 : Int32} {a2 : Int32} {a3 : Int32} (k : wkB l G (d + 1) n_X1_takeLaw Q 31 [.ref 3, .int a1, .int (a2 + 1), wkU] [] I L R) : wkB l G (d + 1) n_X1_takeLaw Q 178 [.ref 3, .int a1, .int a2, .int a3] [] I L R :=
  bb_iinc (i := 2) (n := 1) (zd (i := .iinc 2 (1)) (n := 3) (by decide +kernel)) rfl rfl (by decide +kernel) (wkNl_i rfl) <|
  bb_lift (fun _ => q_goto (off := -150) (tgt := 31) (zd (i := .goto (-150)) (n := 3) (by decide +kernel)) (by decide)) (wkB_le (vs := [.ref 3, .int a1, .int (a2 + 1), wkU]) (ws := [.ref 3, .int a1, .int (a2 + 1), .int a3]) ⟨Or.inr rfl, Or.inr rfl, Or.inr rfl, Or.inl rfl, trivial⟩ (k))
theorem w_X1_takeLaw_184 {Q : qQ} {I : qMI} {L : qML} {R : qMR} {a1 : Int32} {a2 : Int32} {P : qMI → qML → qMR → Prop} (hc : wkCv l G d n_X1_takeSum [.ref 3, .int 0] I L R P) (kk : ∀ I' L' R', P I' L' R' → wkB l G (d + 1) n_X1_takeLaw Q 189 [.ref 3, .int a1, .int a2, wkU] [] I' L' R') : wkB l G (d + 1) n_X1_takeLaw Q 184 [.ref 3, .int a1, .int a2, wkU] [] I L R :=
  bb_aload_n (n := 0) (i := 0) (zd (i := .aload_n 0) (n := 1) (by decide +kernel)) rfl rfl <|
  bb_lift (fun _ => q_iconst (n := 0) (zd (i := .iconst (0)) (n := 1) (by decide +kernel)) rfl) <|
  bb_callV (idx := 125) (k := 3) (ci := 1) (N := n_X1_takeSum) (As := [.int 0]) (st := []) (zd (i := .invokevirtual 125) (n := 3) (by decide +kernel)) to_X1_takeSum g655 g657 g12 (Nat.le_of_ble_eq_true rfl) (by decide +kernel) (by decide +kernel) (by decide +kernel) rfl rfl rfl hc (fun r I' L' R' hq => by obtain ⟨rfl, hp⟩ := hq; exact kk I' L' R' hp)
theorem w_X1_takeLaw_189 {Q : qQ} {I : qMI} {L : qML} {R : qMR} {o : Nat} (ho : o = 9 ∨ o = 259) {a1 : Int32} {a2 : Int32} (h1 : R 3 1 = some o) (h2 : R o 12 = some (o + 6)) {P : Int32 → qMI → qML → qMR → Prop} (hc : wkCi l G d n_X2_emit [.ref (o + 6), .int 7, .int 0] I L R P) (kk : ∀ y I' L' R', P y I' L' R' → wkB l G (d + 1) n_X1_takeLaw Q 202 [.ref 3, .int a1, .int a2, wkU] [.int y] I' L' R') : wkB l G (d + 1) n_X1_takeLaw Q 189 [.ref 3, .int a1, .int a2, wkU] [] I L R :=
  bb_aload_n (n := 0) (i := 0) (zd (i := .aload_n 0) (n := 1) (by decide +kernel)) rfl rfl <|
  bb_getr (k := 3) (ci := 1) (j := 1) (idx := 21) (a := o) (zd (i := .getfield 21) (n := 3) (by decide +kernel)) (by decide +kernel) (by decide +kernel) (by decide +kernel) (by decide +kernel) rfl g336 h1 <|
  bb_getr (k := o) (ci := 0) (j := 12) (idx := 116) (a := (o + 6)) (zd (i := .getfield 116) (n := 3) (by decide +kernel)) (by rcases ho with rfl | rfl <;> decide +kernel) (by rcases ho with rfl | rfl <;> decide +kernel) (by decide +kernel) (by decide +kernel) rfl g307 h2 <|
  bb_lift (fun _ => q_bipush (n := 7) (zd (i := .bipush (7)) (n := 2) (by decide +kernel)) rfl) <|
  bb_lift (fun _ => q_iconst (n := 0) (zd (i := .iconst (0)) (n := 1) (by decide +kernel)) rfl) <|
  bb_callV (idx := 128) (k := (o + 6)) (ci := 2) (N := n_X2_emit) (As := [.int 7, .int 0]) (st := []) (zd (i := .invokevirtual 128) (n := 3) (by decide +kernel)) to_X2_emit g667 g273 g274 (Nat.le_of_ble_eq_true rfl) (by rcases ho with rfl | rfl <;> decide +kernel) (by rcases ho with rfl | rfl <;> decide +kernel) (by decide +kernel) rfl rfl rfl hc (fun r I' L' R' hq => by obtain ⟨y, rfl, hp⟩ := hq; exact kk y I' L' R' hp)
theorem w_X1_takeLaw_202 {Q : qQ} {I : qMI} {L : qML} {R : qMR} {a1 : Int32} {a2 : Int32} {s0 : Int32} (hQ : Q none 336 I L R) : wkB l G (d + 1) n_X1_takeLaw Q 202 [.ref 3, .int a1, .int a2, wkU] [.int s0] I L R :=
  bb_lift (fun _ => q_pop (zd (i := .pop) (n := 1) (by decide +kernel)) rfl) <|
  (fun lv hl => q_vret (zd (i := .return_) (n := 1) (by decide +kernel)) rfl (Nat.le_refl _) (Nat.le_refl _) hQ)
theorem w_X1_takeSum_0 {Q : qQ} {I : qMI} {L : qML} {R : qMR} {a1 : Int32} {P : qMI → qML → qMR → Prop} (hc : wkCv l G d n_X1_takeProduct [.ref 3, .int a1] I L R P) (kk : ∀ I' L' R', P I' L' R' → wkB l G (d + 1) n_X1_takeSum Q 5 [.ref 3, .int a1, wkU, wkU] [] I' L' R') : wkB l G (d + 1) n_X1_takeSum Q 0 [.ref 3, .int a1, wkU, wkU] [] I L R :=
  bb_aload_n (n := 0) (i := 0) (zd (i := .aload_n 0) (n := 1) (by decide +kernel)) rfl rfl <|
  bb_iload_n (n := 1) (i := 1) (zd (i := .iload_n 1) (n := 1) (by decide +kernel)) rfl rfl <|
  bb_callV (idx := 134) (k := 3) (ci := 1) (N := n_X1_takeProduct) (As := [.int a1]) (st := []) (zd (i := .invokevirtual 134) (n := 3) (by decide +kernel)) to_X1_takeProduct g659 g661 g13 (Nat.le_of_ble_eq_true rfl) (by decide +kernel) (by decide +kernel) (by decide +kernel) rfl rfl rfl hc (fun r I' L' R' hq => by obtain ⟨rfl, hp⟩ := hq; exact kk I' L' R' hp)
theorem w_X1_takeSum_5 {Q : qQ} {I : qMI} {L : qML} {R : qMR} {a1 : Int32} (k : wkB l G (d + 1) n_X1_takeSum Q 7 [.ref 3, .int a1, .int 0, wkU] [] I L R) : wkB l G (d + 1) n_X1_takeSum Q 5 [.ref 3, .int a1, wkU, wkU] [] I L R :=
  bb_lift (fun _ => q_iconst (n := 0) (zd (i := .iconst (0)) (n := 1) (by decide +kernel)) rfl) <|
  bb_istore_n (n := 2) (i := 2) (zd (i := .istore_n 2) (n := 1) (by decide +kernel)) rfl (by decide +kernel) (wkNl_i rfl) <|
  k
theorem w_X1_takeSum_7 {Q : qQ} {I : qMI} {L : qML} {R : qMR} {a1 : Int32} {a2 : Int32} (kt : 400 < a2 → wkB l G (d + 1) n_X1_takeSum Q 83 [.ref 3, .int a1, .int a2, wkU] [] I L R) (kf : ¬ 400 < a2 → wkB l G (d + 1) n_X1_takeSum Q 14 [.ref 3, .int a1, .int a2, wkU] [] I L R) : wkB l G (d + 1) n_X1_takeSum Q 7 [.ref 3, .int a1, .int a2, wkU] [] I L R :=
  bb_iload_n (n := 2) (i := 2) (zd (i := .iload_n 2) (n := 1) (by decide +kernel)) rfl rfl <|
  bb_lift (fun _ => q_sipush (n := 400) (zd (i := .sipush (400)) (n := 3) (by decide +kernel)) rfl) <|
  (fun lv hl => q_icmp_gt (off := 72) (tgt := 83) (zd (i := .if_icmp .gt (72)) (n := 3) (by decide +kernel)) (by decide) (fun h => (kt h) lv hl) (fun h => (kf h) lv hl))
theorem w_X1_takeSum_14 {Q : qQ} {I : qMI} {L : qML} {R : qMR} {a1 : Int32} {a2 : Int32} (kt : ¬ (I 3 4) = 0 → wkB l G (d + 1) n_X1_takeSum Q 83 [.ref 3, .int a1, .int a2, wkU] [] I L R) (kf : (I 3 4) = 0 → wkB l G (d + 1) n_X1_takeSum Q 21 [.ref 3, .int a1, .int a2, wkU] [] I L R) : wkB l G (d + 1) n_X1_takeSum Q 14 [.ref 3, .int a1, .int a2, wkU] [] I L R :=
  bb_aload_n (n := 0) (i := 0) (zd (i := .aload_n 0) (n := 1) (by decide +kernel)) rfl rfl <|
  bb_geti (k := 3) (ci := 1) (j := 4) (idx := 32) (zd (i := .getfield 32) (n := 3) (by decide +kernel)) (by decide +kernel) (by decide +kernel) (by decide +kernel) (by decide +kernel) rfl g339 <|
  (fun lv hl => q_if_ne (off := 65) (tgt := 83) (zd (i := .ifCond .ne (65)) (n := 3) (by decide +kernel)) (by decide) (fun h => (kt h) lv hl) (fun h => (kf h) lv hl))
theorem w_X1_takeSum_21 {Q : qQ} {I : qMI} {L : qML} {R : qMR} {a1 : Int32} {a2 : Int32} (kt : (I 3 3) = 43 → wkB l G (d + 1) n_X1_takeSum Q 39 [.ref 3, .int a1, .int a2, wkU] [] I L R) (kf : ¬ (I 3 3) = 43 → wkB l G (d + 1) n_X1_takeSum Q 30 [.ref 3, .int a1, .int a2, wkU] [] I L R) : wkB l G (d + 1) n_X1_takeSum Q 21 [.ref 3, .int a1, .int a2, wkU] [] I L R :=
  bb_aload_n (n := 0) (i := 0) (zd (i := .aload_n 0) (n := 1) (by decide +kernel)) rfl rfl <|
  bb_geti (k := 3) (ci := 1) (j := 3) (idx := 29) (zd (i := .getfield 29) (n := 3) (by decide +kernel)) (by decide +kernel) (by decide +kernel) (by decide +kernel) (by decide +kernel) rfl g338 <|
  bb_lift (fun _ => q_bipush (n := 43) (zd (i := .bipush (43)) (n := 2) (by decide +kernel)) rfl) <|
  (fun lv hl => q_icmp_eq (off := 12) (tgt := 39) (zd (i := .if_icmp .eq (12)) (n := 3) (by decide +kernel)) (by decide) (fun h => (kt h) lv hl) (fun h => (kf h) lv hl))
theorem w_X1_takeSum_30 {Q : qQ} {I : qMI} {L : qML} {R : qMR} {a1 : Int32} {a2 : Int32} (kt : ¬ (I 3 3) = 45 → wkB l G (d + 1) n_X1_takeSum Q 83 [.ref 3, .int a1, .int a2, wkU] [] I L R) (kf : (I 3 3) = 45 → wkB l G (d + 1) n_X1_takeSum Q 39 [.ref 3, .int a1, .int a2, wkU] [] I L R) : wkB l G (d + 1) n_X1_takeSum Q 30 [.ref 3, .int a1, .int a2, wkU] [] I L R :=
  bb_aload_n (n := 0) (i := 0) (zd (i := .aload_n 0) (n := 1) (by decide +kernel)) rfl rfl <|
  bb_geti (k := 3) (ci := 1) (j := 3) (idx := 29) (zd (i := .getfield 29) (n := 3) (by decide +kernel)) (by decide +kernel) (by decide +kernel) (by decide +kernel) (by decide +kernel) rfl g338 <|
  bb_lift (fun _ => q_bipush (n := 45) (zd (i := .bipush (45)) (n := 2) (by decide +kernel)) rfl) <|
  (fun lv hl => q_icmp_ne (off := 47) (tgt := 83) (zd (i := .if_icmp .ne (47)) (n := 3) (by decide +kernel)) (by decide) (fun h => (kt h) lv hl) (fun h => (kf h) lv hl))
theorem w_X1_takeSum_39 {Q : qQ} {I : qMI} {L : qML} {R : qMR} {a1 : Int32} {a2 : Int32} (kt : ¬ (I 3 3) = 43 → wkB l G (d + 1) n_X1_takeSum Q 52 [.ref 3, .int a1, .int a2, wkU] [] I L R) (kf : (I 3 3) = 43 → wkB l G (d + 1) n_X1_takeSum Q 48 [.ref 3, .int a1, .int a2, wkU] [] I L R) : wkB l G (d + 1) n_X1_takeSum Q 39 [.ref 3, .int a1, .int a2, wkU] [] I L R :=
  bb_aload_n (n := 0) (i := 0) (zd (i := .aload_n 0) (n := 1) (by decide +kernel)) rfl rfl <|
  bb_geti (k := 3) (ci := 1) (j := 3) (idx := 29) (zd (i := .getfield 29) (n := 3) (by decide +kernel)) (by decide +kernel) (by decide +kernel) (by decide +kernel) (by decide +kernel) rfl g338 <|
  bb_lift (fun _ => q_bipush (n := 43) (zd (i := .bipush (43)) (n := 2) (by decide +kernel)) rfl) <|
  (fun lv hl => q_icmp_ne (off := 7) (tgt := 52) (zd (i := .if_icmp .ne (7)) (n := 3) (by decide +kernel)) (by decide) (fun h => (kt h) lv hl) (fun h => (kf h) lv hl))
theorem w_X1_takeSum_48 {Q : qQ} {I : qMI} {L : qML} {R : qMR} {a1 : Int32} {a2 : Int32} (k : wkB l G (d + 1) n_X1_takeSum Q 53 [.ref 3, .int a1, .int a2, wkU] [.int 2] I L R) : wkB l G (d + 1) n_X1_takeSum Q 48 [.ref 3, .int a1, .int a2, wkU] [] I L R :=
  bb_lift (fun _ => q_iconst (n := 2) (zd (i := .iconst (2)) (n := 1) (by decide +kernel)) rfl) <|
  bb_lift (fun _ => q_goto (off := 4) (tgt := 53) (zd (i := .goto (4)) (n := 3) (by decide +kernel)) (by decide)) k
theorem w_X1_takeSum_52 {Q : qQ} {I : qMI} {L : qML} {R : qMR} {a1 : Int32} {a2 : Int32} (k : wkB l G (d + 1) n_X1_takeSum Q 53 [.ref 3, .int a1, .int a2, wkU] [.int 3] I L R) : wkB l G (d + 1) n_X1_takeSum Q 52 [.ref 3, .int a1, .int a2, wkU] [] I L R :=
  bb_lift (fun _ => q_iconst (n := 3) (zd (i := .iconst (3)) (n := 1) (by decide +kernel)) rfl) <|
  k
theorem w_X1_takeSum_53 {Q : qQ} {I : qMI} {L : qML} {R : qMR} {a1 : Int32} {a2 : Int32} {s0 : Int32} {P : qMI → qML → qMR → Prop} (hc : wkCv l G d n_X1_take [.ref 3, .int 1] I L R P) (kk : ∀ I' L' R', P I' L' R' → wkB l G (d + 1) n_X1_takeSum Q 59 [.ref 3, .int a1, .int a2, .int s0] [] I' L' R') : wkB l G (d + 1) n_X1_takeSum Q 53 [.ref 3, .int a1, .int a2, wkU] [.int s0] I L R :=
  bb_istore_n (n := 3) (i := 3) (zd (i := .istore_n 3) (n := 1) (by decide +kernel)) rfl (by decide +kernel) (wkNl_i rfl) <|
  bb_aload_n (n := 0) (i := 0) (zd (i := .aload_n 0) (n := 1) (by decide +kernel)) rfl rfl <|
  bb_lift (fun _ => q_iconst (n := 1) (zd (i := .iconst (1)) (n := 1) (by decide +kernel)) rfl) <|
  bb_callV (idx := 71) (k := 3) (ci := 1) (N := n_X1_take) (As := [.int 1]) (st := []) (zd (i := .invokevirtual 71) (n := 3) (by decide +kernel)) to_X1_take g626 g628 g7 (Nat.le_of_ble_eq_true rfl) (by decide +kernel) (by decide +kernel) (by decide +kernel) rfl rfl rfl hc (fun r I' L' R' hq => by obtain ⟨rfl, hp⟩ := hq; exact kk I' L' R' hp)
theorem w_X1_takeSum_59 {Q : qQ} {I : qMI} {L : qML} {R : qMR} {a1 : Int32} {a2 : Int32} {a3 : Int32} {P : qMI → qML → qMR → Prop} (hc : wkCv l G d n_X1_takeProduct [.ref 3, .int a1] I L R P) (kk : ∀ I' L' R', P I' L' R' → wkB l G (d + 1) n_X1_takeSum Q 64 [.ref 3, .int a1, .int a2, .int a3] [] I' L' R') : wkB l G (d + 1) n_X1_takeSum Q 59 [.ref 3, .int a1, .int a2, .int a3] [] I L R :=
  bb_aload_n (n := 0) (i := 0) (zd (i := .aload_n 0) (n := 1) (by decide +kernel)) rfl rfl <|
  bb_iload_n (n := 1) (i := 1) (zd (i := .iload_n 1) (n := 1) (by decide +kernel)) rfl rfl <|
  bb_callV (idx := 134) (k := 3) (ci := 1) (N := n_X1_takeProduct) (As := [.int a1]) (st := []) (zd (i := .invokevirtual 134) (n := 3) (by decide +kernel)) to_X1_takeProduct g659 g661 g13 (Nat.le_of_ble_eq_true rfl) (by decide +kernel) (by decide +kernel) (by decide +kernel) rfl rfl rfl hc (fun r I' L' R' hq => by obtain ⟨rfl, hp⟩ := hq; exact kk I' L' R' hp)
theorem w_X1_takeSum_64 {Q : qQ} {I : qMI} {L : qML} {R : qMR} {o : Nat} (ho : o = 9 ∨ o = 259) {a1 : Int32} {a2 : Int32} {a3 : Int32} (h1 : R 3 1 = some o) (h2 : R o 12 = some (o + 6)) {P : Int32 → qMI → qML → qMR → Prop} (hc : wkCi l G d n_X2_emit [.ref (o + 6), .int a3, .int 0] I L R P) (kk : ∀ y I' L' R', P y I' L' R' → wkB l G (d + 1) n_X1_takeSum Q 76 [.ref 3, .int a1, .int a2, .int a3] [.int y] I' L' R') : wkB l G (d + 1) n_X1_takeSum Q 64 [.ref 3, .int a1, .int a2, .int a3] [] I L R :=
  bb_aload_n (n := 0) (i := 0) (zd (i := .aload_n 0) (n := 1) (by decide +kernel)) rfl rfl <|
  bb_getr (k := 3) (ci := 1) (j := 1) (idx := 21) (a := o) (zd (i := .getfield 21) (n := 3) (by decide +kernel)) (by decide +kernel) (by decide +kernel) (by decide +kernel) (by decide +kernel) rfl g336 h1 <|
  bb_getr (k := o) (ci := 0) (j := 12) (idx := 116) (a := (o + 6)) (zd (i := .getfield 116) (n := 3) (by decide +kernel)) (by rcases ho with rfl | rfl <;> decide +kernel) (by rcases ho with rfl | rfl <;> decide +kernel) (by decide +kernel) (by decide +kernel) rfl g307 h2 <|
  bb_iload_n (n := 3) (i := 3) (zd (i := .iload_n 3) (n := 1) (by decide +kernel)) rfl rfl <|
  bb_lift (fun _ => q_iconst (n := 0) (zd (i := .iconst (0)) (n := 1) (by decide +kernel)) rfl) <|
  bb_callV (idx := 128) (k := (o + 6)) (ci := 2) (N := n_X2_emit) (As := [.int a3, .int 0]) (st := []) (zd (i := .invokevirtual 128) (n := 3) (by decide +kernel)) to_X2_emit g667 g273 g274 (Nat.le_of_ble_eq_true rfl) (by rcases ho with rfl | rfl <;> decide +kernel) (by rcases ho with rfl | rfl <;> decide +kernel) (by decide +kernel) rfl rfl rfl hc (fun r I' L' R' hq => by obtain ⟨y, rfl, hp⟩ := hq; exact kk y I' L' R' hp)
theorem w_X1_takeSum_76 {Q : qQ} {I : qMI} {L : qML} {R : qMR} {a1 : Int32} {a2 : Int32} {a3 : Int32} {s0 : Int32} (k : wkB l G (d + 1) n_X1_takeSum Q 7 [.ref 3, .int a1, .int (a2 + 1), wkU] [] I L R) : wkB l G (d + 1) n_X1_takeSum Q 76 [.ref 3, .int a1, .int a2, .int a3] [.int s0] I L R :=
  bb_lift (fun _ => q_pop (zd (i := .pop) (n := 1) (by decide +kernel)) rfl) <|
  bb_iinc (i := 2) (n := 1) (zd (i := .iinc 2 (1)) (n := 3) (by decide +kernel)) rfl rfl (by decide +kernel) (wkNl_i rfl) <|
  bb_lift (fun _ => q_goto (off := -73) (tgt := 7) (zd (i := .goto (-73)) (n := 3) (by decide +kernel)) (by decide)) (wkB_le (vs := [.ref 3, .int a1, .int (a2 + 1), wkU]) (ws := [.ref 3, .int a1, .int (a2 + 1), .int a3]) ⟨Or.inr rfl, Or.inr rfl, Or.inr rfl, Or.inl rfl, trivial⟩ (k))
theorem w_X1_takeSum_83 {Q : qQ} {I : qMI} {L : qML} {R : qMR} {a1 : Int32} {a2 : Int32} (hQ : Q none 336 I L R) : wkB l G (d + 1) n_X1_takeSum Q 83 [.ref 3, .int a1, .int a2, wkU] [] I L R :=
  (fun lv hl => q_vret (zd (i := .return_) (n := 1) (by decide +kernel)) rfl (Nat.le_refl _) (Nat.le_refl _) hQ)
theorem w_X1_takeProduct_0 {Q : qQ} {I : qMI} {L : qML} {R : qMR} {a1 : Int32} {P : qMI → qML → qMR → Prop} (hc : wkCv l G d n_X1_takeUnit [.ref 3, .int a1] I L R P) (kk : ∀ I' L' R', P I' L' R' → wkB l G (d + 1) n_X1_takeProduct Q 5 [.ref 3, .int a1, wkU, wkU] [] I' L' R') : wkB l G (d + 1) n_X1_takeProduct Q 0 [.ref 3, .int a1, wkU, wkU] [] I L R :=
  bb_aload_n (n := 0) (i := 0) (zd (i := .aload_n 0) (n := 1) (by decide +kernel)) rfl rfl <|
  bb_iload_n (n := 1) (i := 1) (zd (i := .iload_n 1) (n := 1) (by decide +kernel)) rfl rfl <|
  bb_callV (idx := 137) (k := 3) (ci := 1) (N := n_X1_takeUnit) (As := [.int a1]) (st := []) (zd (i := .invokevirtual 137) (n := 3) (by decide +kernel)) to_X1_takeUnit g663 g665 g14 (Nat.le_of_ble_eq_true rfl) (by decide +kernel) (by decide +kernel) (by decide +kernel) rfl rfl rfl hc (fun r I' L' R' hq => by obtain ⟨rfl, hp⟩ := hq; exact kk I' L' R' hp)
theorem w_X1_takeProduct_5 {Q : qQ} {I : qMI} {L : qML} {R : qMR} {a1 : Int32} (k : wkB l G (d + 1) n_X1_takeProduct Q 7 [.ref 3, .int a1, .int 0, wkU] [] I L R) : wkB l G (d + 1) n_X1_takeProduct Q 5 [.ref 3, .int a1, wkU, wkU] [] I L R :=
  bb_lift (fun _ => q_iconst (n := 0) (zd (i := .iconst (0)) (n := 1) (by decide +kernel)) rfl) <|
  bb_istore_n (n := 2) (i := 2) (zd (i := .istore_n 2) (n := 1) (by decide +kernel)) rfl (by decide +kernel) (wkNl_i rfl) <|
  k
theorem w_X1_takeProduct_7 {Q : qQ} {I : qMI} {L : qML} {R : qMR} {a1 : Int32} {a2 : Int32} (kt : 400 < a2 → wkB l G (d + 1) n_X1_takeProduct Q 83 [.ref 3, .int a1, .int a2, wkU] [] I L R) (kf : ¬ 400 < a2 → wkB l G (d + 1) n_X1_takeProduct Q 14 [.ref 3, .int a1, .int a2, wkU] [] I L R) : wkB l G (d + 1) n_X1_takeProduct Q 7 [.ref 3, .int a1, .int a2, wkU] [] I L R :=
  bb_iload_n (n := 2) (i := 2) (zd (i := .iload_n 2) (n := 1) (by decide +kernel)) rfl rfl <|
  bb_lift (fun _ => q_sipush (n := 400) (zd (i := .sipush (400)) (n := 3) (by decide +kernel)) rfl) <|
  (fun lv hl => q_icmp_gt (off := 72) (tgt := 83) (zd (i := .if_icmp .gt (72)) (n := 3) (by decide +kernel)) (by decide) (fun h => (kt h) lv hl) (fun h => (kf h) lv hl))
theorem w_X1_takeProduct_14 {Q : qQ} {I : qMI} {L : qML} {R : qMR} {a1 : Int32} {a2 : Int32} (kt : ¬ (I 3 4) = 0 → wkB l G (d + 1) n_X1_takeProduct Q 83 [.ref 3, .int a1, .int a2, wkU] [] I L R) (kf : (I 3 4) = 0 → wkB l G (d + 1) n_X1_takeProduct Q 21 [.ref 3, .int a1, .int a2, wkU] [] I L R) : wkB l G (d + 1) n_X1_takeProduct Q 14 [.ref 3, .int a1, .int a2, wkU] [] I L R :=
  bb_aload_n (n := 0) (i := 0) (zd (i := .aload_n 0) (n := 1) (by decide +kernel)) rfl rfl <|
  bb_geti (k := 3) (ci := 1) (j := 4) (idx := 32) (zd (i := .getfield 32) (n := 3) (by decide +kernel)) (by decide +kernel) (by decide +kernel) (by decide +kernel) (by decide +kernel) rfl g339 <|
  (fun lv hl => q_if_ne (off := 65) (tgt := 83) (zd (i := .ifCond .ne (65)) (n := 3) (by decide +kernel)) (by decide) (fun h => (kt h) lv hl) (fun h => (kf h) lv hl))
theorem w_X1_takeProduct_21 {Q : qQ} {I : qMI} {L : qML} {R : qMR} {a1 : Int32} {a2 : Int32} (kt : (I 3 3) = 42 → wkB l G (d + 1) n_X1_takeProduct Q 39 [.ref 3, .int a1, .int a2, wkU] [] I L R) (kf : ¬ (I 3 3) = 42 → wkB l G (d + 1) n_X1_takeProduct Q 30 [.ref 3, .int a1, .int a2, wkU] [] I L R) : wkB l G (d + 1) n_X1_takeProduct Q 21 [.ref 3, .int a1, .int a2, wkU] [] I L R :=
  bb_aload_n (n := 0) (i := 0) (zd (i := .aload_n 0) (n := 1) (by decide +kernel)) rfl rfl <|
  bb_geti (k := 3) (ci := 1) (j := 3) (idx := 29) (zd (i := .getfield 29) (n := 3) (by decide +kernel)) (by decide +kernel) (by decide +kernel) (by decide +kernel) (by decide +kernel) rfl g338 <|
  bb_lift (fun _ => q_bipush (n := 42) (zd (i := .bipush (42)) (n := 2) (by decide +kernel)) rfl) <|
  (fun lv hl => q_icmp_eq (off := 12) (tgt := 39) (zd (i := .if_icmp .eq (12)) (n := 3) (by decide +kernel)) (by decide) (fun h => (kt h) lv hl) (fun h => (kf h) lv hl))
theorem w_X1_takeProduct_30 {Q : qQ} {I : qMI} {L : qML} {R : qMR} {a1 : Int32} {a2 : Int32} (kt : ¬ (I 3 3) = 47 → wkB l G (d + 1) n_X1_takeProduct Q 83 [.ref 3, .int a1, .int a2, wkU] [] I L R) (kf : (I 3 3) = 47 → wkB l G (d + 1) n_X1_takeProduct Q 39 [.ref 3, .int a1, .int a2, wkU] [] I L R) : wkB l G (d + 1) n_X1_takeProduct Q 30 [.ref 3, .int a1, .int a2, wkU] [] I L R :=
  bb_aload_n (n := 0) (i := 0) (zd (i := .aload_n 0) (n := 1) (by decide +kernel)) rfl rfl <|
  bb_geti (k := 3) (ci := 1) (j := 3) (idx := 29) (zd (i := .getfield 29) (n := 3) (by decide +kernel)) (by decide +kernel) (by decide +kernel) (by decide +kernel) (by decide +kernel) rfl g338 <|
  bb_lift (fun _ => q_bipush (n := 47) (zd (i := .bipush (47)) (n := 2) (by decide +kernel)) rfl) <|
  (fun lv hl => q_icmp_ne (off := 47) (tgt := 83) (zd (i := .if_icmp .ne (47)) (n := 3) (by decide +kernel)) (by decide) (fun h => (kt h) lv hl) (fun h => (kf h) lv hl))
theorem w_X1_takeProduct_39 {Q : qQ} {I : qMI} {L : qML} {R : qMR} {a1 : Int32} {a2 : Int32} (kt : ¬ (I 3 3) = 42 → wkB l G (d + 1) n_X1_takeProduct Q 52 [.ref 3, .int a1, .int a2, wkU] [] I L R) (kf : (I 3 3) = 42 → wkB l G (d + 1) n_X1_takeProduct Q 48 [.ref 3, .int a1, .int a2, wkU] [] I L R) : wkB l G (d + 1) n_X1_takeProduct Q 39 [.ref 3, .int a1, .int a2, wkU] [] I L R :=
  bb_aload_n (n := 0) (i := 0) (zd (i := .aload_n 0) (n := 1) (by decide +kernel)) rfl rfl <|
  bb_geti (k := 3) (ci := 1) (j := 3) (idx := 29) (zd (i := .getfield 29) (n := 3) (by decide +kernel)) (by decide +kernel) (by decide +kernel) (by decide +kernel) (by decide +kernel) rfl g338 <|
  bb_lift (fun _ => q_bipush (n := 42) (zd (i := .bipush (42)) (n := 2) (by decide +kernel)) rfl) <|
  (fun lv hl => q_icmp_ne (off := 7) (tgt := 52) (zd (i := .if_icmp .ne (7)) (n := 3) (by decide +kernel)) (by decide) (fun h => (kt h) lv hl) (fun h => (kf h) lv hl))
theorem w_X1_takeProduct_48 {Q : qQ} {I : qMI} {L : qML} {R : qMR} {a1 : Int32} {a2 : Int32} (k : wkB l G (d + 1) n_X1_takeProduct Q 53 [.ref 3, .int a1, .int a2, wkU] [.int 4] I L R) : wkB l G (d + 1) n_X1_takeProduct Q 48 [.ref 3, .int a1, .int a2, wkU] [] I L R :=
  bb_lift (fun _ => q_iconst (n := 4) (zd (i := .iconst (4)) (n := 1) (by decide +kernel)) rfl) <|
  bb_lift (fun _ => q_goto (off := 4) (tgt := 53) (zd (i := .goto (4)) (n := 3) (by decide +kernel)) (by decide)) k
theorem w_X1_takeProduct_52 {Q : qQ} {I : qMI} {L : qML} {R : qMR} {a1 : Int32} {a2 : Int32} (k : wkB l G (d + 1) n_X1_takeProduct Q 53 [.ref 3, .int a1, .int a2, wkU] [.int 5] I L R) : wkB l G (d + 1) n_X1_takeProduct Q 52 [.ref 3, .int a1, .int a2, wkU] [] I L R :=
  bb_lift (fun _ => q_iconst (n := 5) (zd (i := .iconst (5)) (n := 1) (by decide +kernel)) rfl) <|
  k
theorem w_X1_takeProduct_53 {Q : qQ} {I : qMI} {L : qML} {R : qMR} {a1 : Int32} {a2 : Int32} {s0 : Int32} {P : qMI → qML → qMR → Prop} (hc : wkCv l G d n_X1_take [.ref 3, .int 1] I L R P) (kk : ∀ I' L' R', P I' L' R' → wkB l G (d + 1) n_X1_takeProduct Q 59 [.ref 3, .int a1, .int a2, .int s0] [] I' L' R') : wkB l G (d + 1) n_X1_takeProduct Q 53 [.ref 3, .int a1, .int a2, wkU] [.int s0] I L R :=
  bb_istore_n (n := 3) (i := 3) (zd (i := .istore_n 3) (n := 1) (by decide +kernel)) rfl (by decide +kernel) (wkNl_i rfl) <|
  bb_aload_n (n := 0) (i := 0) (zd (i := .aload_n 0) (n := 1) (by decide +kernel)) rfl rfl <|
  bb_lift (fun _ => q_iconst (n := 1) (zd (i := .iconst (1)) (n := 1) (by decide +kernel)) rfl) <|
  bb_callV (idx := 71) (k := 3) (ci := 1) (N := n_X1_take) (As := [.int 1]) (st := []) (zd (i := .invokevirtual 71) (n := 3) (by decide +kernel)) to_X1_take g626 g628 g7 (Nat.le_of_ble_eq_true rfl) (by decide +kernel) (by decide +kernel) (by decide +kernel) rfl rfl rfl hc (fun r I' L' R' hq => by obtain ⟨rfl, hp⟩ := hq; exact kk I' L' R' hp)
theorem w_X1_takeProduct_59 {Q : qQ} {I : qMI} {L : qML} {R : qMR} {a1 : Int32} {a2 : Int32} {a3 : Int32} {P : qMI → qML → qMR → Prop} (hc : wkCv l G d n_X1_takeUnit [.ref 3, .int a1] I L R P) (kk : ∀ I' L' R', P I' L' R' → wkB l G (d + 1) n_X1_takeProduct Q 64 [.ref 3, .int a1, .int a2, .int a3] [] I' L' R') : wkB l G (d + 1) n_X1_takeProduct Q 59 [.ref 3, .int a1, .int a2, .int a3] [] I L R :=
  bb_aload_n (n := 0) (i := 0) (zd (i := .aload_n 0) (n := 1) (by decide +kernel)) rfl rfl <|
  bb_iload_n (n := 1) (i := 1) (zd (i := .iload_n 1) (n := 1) (by decide +kernel)) rfl rfl <|
  bb_callV (idx := 137) (k := 3) (ci := 1) (N := n_X1_takeUnit) (As := [.int a1]) (st := []) (zd (i := .invokevirtual 137) (n := 3) (by decide +kernel)) to_X1_takeUnit g663 g665 g14 (Nat.le_of_ble_eq_true rfl) (by decide +kernel) (by decide +kernel) (by decide +kernel) rfl rfl rfl hc (fun r I' L' R' hq => by obtain ⟨rfl, hp⟩ := hq; exact kk I' L' R' hp)
theorem w_X1_takeProduct_64 {Q : qQ} {I : qMI} {L : qML} {R : qMR} {o : Nat} (ho : o = 9 ∨ o = 259) {a1 : Int32} {a2 : Int32} {a3 : Int32} (h1 : R 3 1 = some o) (h2 : R o 12 = some (o + 6)) {P : Int32 → qMI → qML → qMR → Prop} (hc : wkCi l G d n_X2_emit [.ref (o + 6), .int a3, .int 0] I L R P) (kk : ∀ y I' L' R', P y I' L' R' → wkB l G (d + 1) n_X1_takeProduct Q 76 [.ref 3, .int a1, .int a2, .int a3] [.int y] I' L' R') : wkB l G (d + 1) n_X1_takeProduct Q 64 [.ref 3, .int a1, .int a2, .int a3] [] I L R :=
  bb_aload_n (n := 0) (i := 0) (zd (i := .aload_n 0) (n := 1) (by decide +kernel)) rfl rfl <|
  bb_getr (k := 3) (ci := 1) (j := 1) (idx := 21) (a := o) (zd (i := .getfield 21) (n := 3) (by decide +kernel)) (by decide +kernel) (by decide +kernel) (by decide +kernel) (by decide +kernel) rfl g336 h1 <|
  bb_getr (k := o) (ci := 0) (j := 12) (idx := 116) (a := (o + 6)) (zd (i := .getfield 116) (n := 3) (by decide +kernel)) (by rcases ho with rfl | rfl <;> decide +kernel) (by rcases ho with rfl | rfl <;> decide +kernel) (by decide +kernel) (by decide +kernel) rfl g307 h2 <|
  bb_iload_n (n := 3) (i := 3) (zd (i := .iload_n 3) (n := 1) (by decide +kernel)) rfl rfl <|
  bb_lift (fun _ => q_iconst (n := 0) (zd (i := .iconst (0)) (n := 1) (by decide +kernel)) rfl) <|
  bb_callV (idx := 128) (k := (o + 6)) (ci := 2) (N := n_X2_emit) (As := [.int a3, .int 0]) (st := []) (zd (i := .invokevirtual 128) (n := 3) (by decide +kernel)) to_X2_emit g667 g273 g274 (Nat.le_of_ble_eq_true rfl) (by rcases ho with rfl | rfl <;> decide +kernel) (by rcases ho with rfl | rfl <;> decide +kernel) (by decide +kernel) rfl rfl rfl hc (fun r I' L' R' hq => by obtain ⟨y, rfl, hp⟩ := hq; exact kk y I' L' R' hp)
theorem w_X1_takeProduct_76 {Q : qQ} {I : qMI} {L : qML} {R : qMR} {a1 : Int32} {a2 : Int32} {a3 : Int32} {s0 : Int32} (k : wkB l G (d + 1) n_X1_takeProduct Q 7 [.ref 3, .int a1, .int (a2 + 1), wkU] [] I L R) : wkB l G (d + 1) n_X1_takeProduct Q 76 [.ref 3, .int a1, .int a2, .int a3] [.int s0] I L R :=
  bb_lift (fun _ => q_pop (zd (i := .pop) (n := 1) (by decide +kernel)) rfl) <|
  bb_iinc (i := 2) (n := 1) (zd (i := .iinc 2 (1)) (n := 3) (by decide +kernel)) rfl rfl (by decide +kernel) (wkNl_i rfl) <|
  bb_lift (fun _ => q_goto (off := -73) (tgt := 7) (zd (i := .goto (-73)) (n := 3) (by decide +kernel)) (by decide)) (wkB_le (vs := [.ref 3, .int a1, .int (a2 + 1), wkU]) (ws := [.ref 3, .int a1, .int (a2 + 1), .int a3]) ⟨Or.inr rfl, Or.inr rfl, Or.inr rfl, Or.inl rfl, trivial⟩ (k))
theorem w_X1_takeProduct_83 {Q : qQ} {I : qMI} {L : qML} {R : qMR} {a1 : Int32} {a2 : Int32} (hQ : Q none 336 I L R) : wkB l G (d + 1) n_X1_takeProduct Q 83 [.ref 3, .int a1, .int a2, wkU] [] I L R :=
  (fun lv hl => q_vret (zd (i := .return_) (n := 1) (by decide +kernel)) rfl (Nat.le_refl _) (Nat.le_refl _) hQ)
theorem w_X1_takeUnit_0 {Q : qQ} {I : qMI} {L : qML} {R : qMR} {a1 : Int32} (kt : (I 3 4) = 0 → wkB l G (d + 1) n_X1_takeUnit Q 8 [.ref 3, .int a1] [] I L R) (kf : ¬ (I 3 4) = 0 → wkB l G (d + 1) n_X1_takeUnit Q 7 [.ref 3, .int a1] [] I L R) : wkB l G (d + 1) n_X1_takeUnit Q 0 [.ref 3, .int a1] [] I L R :=
  bb_aload_n (n := 0) (i := 0) (zd (i := .aload_n 0) (n := 1) (by decide +kernel)) rfl rfl <|
  bb_geti (k := 3) (ci := 1) (j := 4) (idx := 32) (zd (i := .getfield 32) (n := 3) (by decide +kernel)) (by decide +kernel) (by decide +kernel) (by decide +kernel) (by decide +kernel) rfl g339 <|
  (fun lv hl => q_if_eq (off := 4) (tgt := 8) (zd (i := .ifCond .eq (4)) (n := 3) (by decide +kernel)) (by decide) (fun h => (kt h) lv hl) (fun h => (kf h) lv hl))
theorem w_X1_takeUnit_7 {Q : qQ} {I : qMI} {L : qML} {R : qMR} {a1 : Int32} (hQ : Q none 336 I L R) : wkB l G (d + 1) n_X1_takeUnit Q 7 [.ref 3, .int a1] [] I L R :=
  (fun lv hl => q_vret (zd (i := .return_) (n := 1) (by decide +kernel)) rfl (Nat.le_refl _) (Nat.le_refl _) hQ)
theorem w_X1_takeUnit_8 {Q : qQ} {I : qMI} {L : qML} {R : qMR} {a1 : Int32} (kt : ¬ (I 3 3) = 3 → wkB l G (d + 1) n_X1_takeUnit Q 49 [.ref 3, .int a1] [] I L R) (kf : (I 3 3) = 3 → wkB l G (d + 1) n_X1_takeUnit Q 16 [.ref 3, .int a1] [] I L R) : wkB l G (d + 1) n_X1_takeUnit Q 8 [.ref 3, .int a1] [] I L R :=
  bb_aload_n (n := 0) (i := 0) (zd (i := .aload_n 0) (n := 1) (by decide +kernel)) rfl rfl <|
  bb_geti (k := 3) (ci := 1) (j := 3) (idx := 29) (zd (i := .getfield 29) (n := 3) (by decide +kernel)) (by decide +kernel) (by decide +kernel) (by decide +kernel) (by decide +kernel) rfl g338 <|
  bb_lift (fun _ => q_iconst (n := 3) (zd (i := .iconst (3)) (n := 1) (by decide +kernel)) rfl) <|
  (fun lv hl => q_icmp_ne (off := 36) (tgt := 49) (zd (i := .if_icmp .ne (36)) (n := 3) (by decide +kernel)) (by decide) (fun h => (kt h) lv hl) (fun h => (kf h) lv hl))
theorem w_X1_takeUnit_16 {Q : qQ} {I : qMI} {L : qML} {R : qMR} {o : Nat} (ho : o = 9 ∨ o = 259) {a1 : Int32} (h1 : R 3 1 = some o) (h2 : R o 12 = some (o + 6)) (h3 : R 3 0 = some 4) (h4 : R 4 3 = some 8) (h5 : vp_in (I 3 2) 401) {P : Int32 → qMI → qML → qMR → Prop} (hc : wkCi l G d n_X2_emit [.ref (o + 6), .int 0, .int ((L 8 (I 3 2).toNatClampNeg).toInt32)] I L R P) (kk : ∀ y I' L' R', P y I' L' R' → wkB l G (d + 1) n_X1_takeUnit Q 40 [.ref 3, .int a1] [.int y] I' L' R') : wkB l G (d + 1) n_X1_takeUnit Q 16 [.ref 3, .int a1] [] I L R :=
  bb_aload_n (n := 0) (i := 0) (zd (i := .aload_n 0) (n := 1) (by decide +kernel)) rfl rfl <|
  bb_getr (k := 3) (ci := 1) (j := 1) (idx := 21) (a := o) (zd (i := .getfield 21) (n := 3) (by decide +kernel)) (by decide +kernel) (by decide +kernel) (by decide +kernel) (by decide +kernel) rfl g336 h1 <|
  bb_getr (k := o) (ci := 0) (j := 12) (idx := 116) (a := (o + 6)) (zd (i := .getfield 116) (n := 3) (by decide +kernel)) (by rcases ho with rfl | rfl <;> decide +kernel) (by rcases ho with rfl | rfl <;> decide +kernel) (by decide +kernel) (by decide +kernel) rfl g307 h2 <|
  bb_lift (fun _ => q_iconst (n := 0) (zd (i := .iconst (0)) (n := 1) (by decide +kernel)) rfl) <|
  bb_aload_n (n := 0) (i := 0) (zd (i := .aload_n 0) (n := 1) (by decide +kernel)) rfl rfl <|
  bb_getr (k := 3) (ci := 1) (j := 0) (idx := 12) (a := 4) (zd (i := .getfield 12) (n := 3) (by decide +kernel)) (by decide +kernel) (by decide +kernel) (by decide +kernel) (by decide +kernel) rfl g335 h3 <|
  bb_getr (k := 4) (ci := 6) (j := 3) (idx := 84) (a := 8) (zd (i := .getfield 84) (n := 3) (by decide +kernel)) (by decide +kernel) (by decide +kernel) (by decide +kernel) (by decide +kernel) rfl g210 h4 <|
  bb_aload_n (n := 0) (i := 0) (zd (i := .aload_n 0) (n := 1) (by decide +kernel)) rfl rfl <|
  bb_geti (k := 3) (ci := 1) (j := 2) (idx := 25) (zd (i := .getfield 25) (n := 3) (by decide +kernel)) (by decide +kernel) (by decide +kernel) (by decide +kernel) (by decide +kernel) rfl g337 <|
  bb_lift (fun _ => q_lald (k := 8) (zd (i := .laload) (n := 1) (by decide +kernel)) (by decide +kernel) (by decide +kernel) h5) <|
  bb_lift (fun _ => q_l2i (zd (i := .l2i) (n := 1) (by decide +kernel))) <|
  bb_callV (idx := 128) (k := (o + 6)) (ci := 2) (N := n_X2_emit) (As := [.int 0, .int ((L 8 (I 3 2).toNatClampNeg).toInt32)]) (st := []) (zd (i := .invokevirtual 128) (n := 3) (by decide +kernel)) to_X2_emit g667 g273 g274 (Nat.le_of_ble_eq_true rfl) (by rcases ho with rfl | rfl <;> decide +kernel) (by rcases ho with rfl | rfl <;> decide +kernel) (by decide +kernel) rfl rfl rfl hc (fun r I' L' R' hq => by obtain ⟨y, rfl, hp⟩ := hq; exact kk y I' L' R' hp)
theorem w_X1_takeUnit_40 {Q : qQ} {I : qMI} {L : qML} {R : qMR} {a1 : Int32} {s0 : Int32} {P : qMI → qML → qMR → Prop} (hc : wkCv l G d n_X1_take [.ref 3, .int 1] I L R P) (kk : ∀ I' L' R', P I' L' R' → wkB l G (d + 1) n_X1_takeUnit Q 46 [.ref 3, .int a1] [] I' L' R') : wkB l G (d + 1) n_X1_takeUnit Q 40 [.ref 3, .int a1] [.int s0] I L R :=
  bb_lift (fun _ => q_pop (zd (i := .pop) (n := 1) (by decide +kernel)) rfl) <|
  bb_aload_n (n := 0) (i := 0) (zd (i := .aload_n 0) (n := 1) (by decide +kernel)) rfl rfl <|
  bb_lift (fun _ => q_iconst (n := 1) (zd (i := .iconst (1)) (n := 1) (by decide +kernel)) rfl) <|
  bb_callV (idx := 71) (k := 3) (ci := 1) (N := n_X1_take) (As := [.int 1]) (st := []) (zd (i := .invokevirtual 71) (n := 3) (by decide +kernel)) to_X1_take g626 g628 g7 (Nat.le_of_ble_eq_true rfl) (by decide +kernel) (by decide +kernel) (by decide +kernel) rfl rfl rfl hc (fun r I' L' R' hq => by obtain ⟨rfl, hp⟩ := hq; exact kk I' L' R' hp)
theorem w_X1_takeUnit_46 {Q : qQ} {I : qMI} {L : qML} {R : qMR} {a1 : Int32} (k : wkB l G (d + 1) n_X1_takeUnit Q 163 [.ref 3, .int a1] [] I L R) : wkB l G (d + 1) n_X1_takeUnit Q 46 [.ref 3, .int a1] [] I L R :=
  bb_lift (fun _ => q_goto (off := 117) (tgt := 163) (zd (i := .goto (117)) (n := 3) (by decide +kernel)) (by decide)) k
theorem w_X1_takeUnit_49 {Q : qQ} {I : qMI} {L : qML} {R : qMR} {a1 : Int32} (kt : (I 3 3) < 142 → wkB l G (d + 1) n_X1_takeUnit Q 97 [.ref 3, .int a1] [] I L R) (kf : ¬ (I 3 3) < 142 → wkB l G (d + 1) n_X1_takeUnit Q 59 [.ref 3, .int a1] [] I L R) : wkB l G (d + 1) n_X1_takeUnit Q 49 [.ref 3, .int a1] [] I L R :=
  bb_aload_n (n := 0) (i := 0) (zd (i := .aload_n 0) (n := 1) (by decide +kernel)) rfl rfl <|
  bb_geti (k := 3) (ci := 1) (j := 3) (idx := 29) (zd (i := .getfield 29) (n := 3) (by decide +kernel)) (by decide +kernel) (by decide +kernel) (by decide +kernel) (by decide +kernel) rfl g338 <|
  bb_lift (fun _ => q_sipush (n := 142) (zd (i := .sipush (142)) (n := 3) (by decide +kernel)) rfl) <|
  (fun lv hl => q_icmp_lt (off := 41) (tgt := 97) (zd (i := .if_icmp .lt (41)) (n := 3) (by decide +kernel)) (by decide) (fun h => (kt h) lv hl) (fun h => (kf h) lv hl))
theorem w_X1_takeUnit_59 {Q : qQ} {I : qMI} {L : qML} {R : qMR} {a1 : Int32} (kt : 151 ≤ (I 3 3) → wkB l G (d + 1) n_X1_takeUnit Q 97 [.ref 3, .int a1] [] I L R) (kf : ¬ 151 ≤ (I 3 3) → wkB l G (d + 1) n_X1_takeUnit Q 69 [.ref 3, .int a1] [] I L R) : wkB l G (d + 1) n_X1_takeUnit Q 59 [.ref 3, .int a1] [] I L R :=
  bb_aload_n (n := 0) (i := 0) (zd (i := .aload_n 0) (n := 1) (by decide +kernel)) rfl rfl <|
  bb_geti (k := 3) (ci := 1) (j := 3) (idx := 29) (zd (i := .getfield 29) (n := 3) (by decide +kernel)) (by decide +kernel) (by decide +kernel) (by decide +kernel) (by decide +kernel) rfl g338 <|
  bb_lift (fun _ => q_sipush (n := 151) (zd (i := .sipush (151)) (n := 3) (by decide +kernel)) rfl) <|
  (fun lv hl => q_icmp_ge (off := 31) (tgt := 97) (zd (i := .if_icmp .ge (31)) (n := 3) (by decide +kernel)) (by decide) (fun h => (kt h) lv hl) (fun h => (kf h) lv hl))
theorem w_X1_takeUnit_69 {Q : qQ} {I : qMI} {L : qML} {R : qMR} {o : Nat} (ho : o = 9 ∨ o = 259) {a1 : Int32} (h1 : R 3 1 = some o) (h2 : R o 12 = some (o + 6)) {P : Int32 → qMI → qML → qMR → Prop} (hc : wkCi l G d n_X2_emit [.ref (o + 6), .int 1, .int ((I 3 3) - 142)] I L R P) (kk : ∀ y I' L' R', P y I' L' R' → wkB l G (d + 1) n_X1_takeUnit Q 88 [.ref 3, .int a1] [.int y] I' L' R') : wkB l G (d + 1) n_X1_takeUnit Q 69 [.ref 3, .int a1] [] I L R :=
  bb_aload_n (n := 0) (i := 0) (zd (i := .aload_n 0) (n := 1) (by decide +kernel)) rfl rfl <|
  bb_getr (k := 3) (ci := 1) (j := 1) (idx := 21) (a := o) (zd (i := .getfield 21) (n := 3) (by decide +kernel)) (by decide +kernel) (by decide +kernel) (by decide +kernel) (by decide +kernel) rfl g336 h1 <|
  bb_getr (k := o) (ci := 0) (j := 12) (idx := 116) (a := (o + 6)) (zd (i := .getfield 116) (n := 3) (by decide +kernel)) (by rcases ho with rfl | rfl <;> decide +kernel) (by rcases ho with rfl | rfl <;> decide +kernel) (by decide +kernel) (by decide +kernel) rfl g307 h2 <|
  bb_lift (fun _ => q_iconst (n := 1) (zd (i := .iconst (1)) (n := 1) (by decide +kernel)) rfl) <|
  bb_aload_n (n := 0) (i := 0) (zd (i := .aload_n 0) (n := 1) (by decide +kernel)) rfl rfl <|
  bb_geti (k := 3) (ci := 1) (j := 3) (idx := 29) (zd (i := .getfield 29) (n := 3) (by decide +kernel)) (by decide +kernel) (by decide +kernel) (by decide +kernel) (by decide +kernel) rfl g338 <|
  bb_lift (fun _ => q_sipush (n := 142) (zd (i := .sipush (142)) (n := 3) (by decide +kernel)) rfl) <|
  bb_lift (fun _ => q_isub (zd (i := .isub) (n := 1) (by decide +kernel))) <|
  bb_callV (idx := 128) (k := (o + 6)) (ci := 2) (N := n_X2_emit) (As := [.int 1, .int ((I 3 3) - 142)]) (st := []) (zd (i := .invokevirtual 128) (n := 3) (by decide +kernel)) to_X2_emit g667 g273 g274 (Nat.le_of_ble_eq_true rfl) (by rcases ho with rfl | rfl <;> decide +kernel) (by rcases ho with rfl | rfl <;> decide +kernel) (by decide +kernel) rfl rfl rfl hc (fun r I' L' R' hq => by obtain ⟨y, rfl, hp⟩ := hq; exact kk y I' L' R' hp)
theorem w_X1_takeUnit_88 {Q : qQ} {I : qMI} {L : qML} {R : qMR} {a1 : Int32} {s0 : Int32} {P : qMI → qML → qMR → Prop} (hc : wkCv l G d n_X1_take [.ref 3, .int 1] I L R P) (kk : ∀ I' L' R', P I' L' R' → wkB l G (d + 1) n_X1_takeUnit Q 94 [.ref 3, .int a1] [] I' L' R') : wkB l G (d + 1) n_X1_takeUnit Q 88 [.ref 3, .int a1] [.int s0] I L R :=
  bb_lift (fun _ => q_pop (zd (i := .pop) (n := 1) (by decide +kernel)) rfl) <|
  bb_aload_n (n := 0) (i := 0) (zd (i := .aload_n 0) (n := 1) (by decide +kernel)) rfl rfl <|
  bb_lift (fun _ => q_iconst (n := 1) (zd (i := .iconst (1)) (n := 1) (by decide +kernel)) rfl) <|
  bb_callV (idx := 71) (k := 3) (ci := 1) (N := n_X1_take) (As := [.int 1]) (st := []) (zd (i := .invokevirtual 71) (n := 3) (by decide +kernel)) to_X1_take g626 g628 g7 (Nat.le_of_ble_eq_true rfl) (by decide +kernel) (by decide +kernel) (by decide +kernel) rfl rfl rfl hc (fun r I' L' R' hq => by obtain ⟨rfl, hp⟩ := hq; exact kk I' L' R' hp)
theorem w_X1_takeUnit_94 {Q : qQ} {I : qMI} {L : qML} {R : qMR} {a1 : Int32} (k : wkB l G (d + 1) n_X1_takeUnit Q 163 [.ref 3, .int a1] [] I L R) : wkB l G (d + 1) n_X1_takeUnit Q 94 [.ref 3, .int a1] [] I L R :=
  bb_lift (fun _ => q_goto (off := 69) (tgt := 163) (zd (i := .goto (69)) (n := 3) (by decide +kernel)) (by decide)) k
theorem w_X1_takeUnit_97 {Q : qQ} {I : qMI} {L : qML} {R : qMR} {a1 : Int32} (kt : ¬ (I 3 3) = 40 → wkB l G (d + 1) n_X1_takeUnit Q 145 [.ref 3, .int a1] [] I L R) (kf : (I 3 3) = 40 → wkB l G (d + 1) n_X1_takeUnit Q 106 [.ref 3, .int a1] [] I L R) : wkB l G (d + 1) n_X1_takeUnit Q 97 [.ref 3, .int a1] [] I L R :=
  bb_aload_n (n := 0) (i := 0) (zd (i := .aload_n 0) (n := 1) (by decide +kernel)) rfl rfl <|
  bb_geti (k := 3) (ci := 1) (j := 3) (idx := 29) (zd (i := .getfield 29) (n := 3) (by decide +kernel)) (by decide +kernel) (by decide +kernel) (by decide +kernel) (by decide +kernel) rfl g338 <|
  bb_lift (fun _ => q_bipush (n := 40) (zd (i := .bipush (40)) (n := 2) (by decide +kernel)) rfl) <|
  (fun lv hl => q_icmp_ne (off := 42) (tgt := 145) (zd (i := .if_icmp .ne (42)) (n := 3) (by decide +kernel)) (by decide) (fun h => (kt h) lv hl) (fun h => (kf h) lv hl))
theorem w_X1_takeUnit_106 {Q : qQ} {I : qMI} {L : qML} {R : qMR} {a1 : Int32} (kt : 6 ≤ a1 → wkB l G (d + 1) n_X1_takeUnit Q 145 [.ref 3, .int a1] [] I L R) (kf : ¬ 6 ≤ a1 → wkB l G (d + 1) n_X1_takeUnit Q 112 [.ref 3, .int a1] [] I L R) : wkB l G (d + 1) n_X1_takeUnit Q 106 [.ref 3, .int a1] [] I L R :=
  bb_iload_n (n := 1) (i := 1) (zd (i := .iload_n 1) (n := 1) (by decide +kernel)) rfl rfl <|
  bb_lift (fun _ => q_bipush (n := 6) (zd (i := .bipush (6)) (n := 2) (by decide +kernel)) rfl) <|
  (fun lv hl => q_icmp_ge (off := 36) (tgt := 145) (zd (i := .if_icmp .ge (36)) (n := 3) (by decide +kernel)) (by decide) (fun h => (kt h) lv hl) (fun h => (kf h) lv hl))
theorem w_X1_takeUnit_112 {Q : qQ} {I : qMI} {L : qML} {R : qMR} {a1 : Int32} {P : qMI → qML → qMR → Prop} (hc : wkCv l G d n_X1_take [.ref 3, .int 1] I L R P) (kk : ∀ I' L' R', P I' L' R' → wkB l G (d + 1) n_X1_takeUnit Q 117 [.ref 3, .int a1] [] I' L' R') : wkB l G (d + 1) n_X1_takeUnit Q 112 [.ref 3, .int a1] [] I L R :=
  bb_aload_n (n := 0) (i := 0) (zd (i := .aload_n 0) (n := 1) (by decide +kernel)) rfl rfl <|
  bb_lift (fun _ => q_iconst (n := 1) (zd (i := .iconst (1)) (n := 1) (by decide +kernel)) rfl) <|
  bb_callV (idx := 71) (k := 3) (ci := 1) (N := n_X1_take) (As := [.int 1]) (st := []) (zd (i := .invokevirtual 71) (n := 3) (by decide +kernel)) to_X1_take g626 g628 g7 (Nat.le_of_ble_eq_true rfl) (by decide +kernel) (by decide +kernel) (by decide +kernel) rfl rfl rfl hc (fun r I' L' R' hq => by obtain ⟨rfl, hp⟩ := hq; exact kk I' L' R' hp)
theorem w_X1_takeUnit_117 {Q : qQ} {I : qMI} {L : qML} {R : qMR} {a1 : Int32} {P : qMI → qML → qMR → Prop} (hc : wkCv l G d n_X1_takeSum [.ref 3, .int (a1 + 1)] I L R P) (kk : ∀ I' L' R', P I' L' R' → wkB l G (d + 1) n_X1_takeUnit Q 124 [.ref 3, .int a1] [] I' L' R') : wkB l G (d + 1) n_X1_takeUnit Q 117 [.ref 3, .int a1] [] I L R :=
  bb_aload_n (n := 0) (i := 0) (zd (i := .aload_n 0) (n := 1) (by decide +kernel)) rfl rfl <|
  bb_iload_n (n := 1) (i := 1) (zd (i := .iload_n 1) (n := 1) (by decide +kernel)) rfl rfl <|
  bb_lift (fun _ => q_iconst (n := 1) (zd (i := .iconst (1)) (n := 1) (by decide +kernel)) rfl) <|
  bb_lift (fun _ => q_iadd (zd (i := .iadd) (n := 1) (by decide +kernel))) <|
  bb_callV (idx := 125) (k := 3) (ci := 1) (N := n_X1_takeSum) (As := [.int (a1 + 1)]) (st := []) (zd (i := .invokevirtual 125) (n := 3) (by decide +kernel)) to_X1_takeSum g655 g657 g12 (Nat.le_of_ble_eq_true rfl) (by decide +kernel) (by decide +kernel) (by decide +kernel) rfl rfl rfl hc (fun r I' L' R' hq => by obtain ⟨rfl, hp⟩ := hq; exact kk I' L' R' hp)
theorem w_X1_takeUnit_124 {Q : qQ} {I : qMI} {L : qML} {R : qMR} {a1 : Int32} (kt : ¬ (I 3 3) = 41 → wkB l G (d + 1) n_X1_takeUnit Q 138 [.ref 3, .int a1] [.ref 3] I L R) (kf : (I 3 3) = 41 → wkB l G (d + 1) n_X1_takeUnit Q 134 [.ref 3, .int a1] [.ref 3] I L R) : wkB l G (d + 1) n_X1_takeUnit Q 124 [.ref 3, .int a1] [] I L R :=
  bb_aload_n (n := 0) (i := 0) (zd (i := .aload_n 0) (n := 1) (by decide +kernel)) rfl rfl <|
  bb_aload_n (n := 0) (i := 0) (zd (i := .aload_n 0) (n := 1) (by decide +kernel)) rfl rfl <|
  bb_geti (k := 3) (ci := 1) (j := 3) (idx := 29) (zd (i := .getfield 29) (n := 3) (by decide +kernel)) (by decide +kernel) (by decide +kernel) (by decide +kernel) (by decide +kernel) rfl g338 <|
  bb_lift (fun _ => q_bipush (n := 41) (zd (i := .bipush (41)) (n := 2) (by decide +kernel)) rfl) <|
  (fun lv hl => q_icmp_ne (off := 7) (tgt := 138) (zd (i := .if_icmp .ne (7)) (n := 3) (by decide +kernel)) (by decide) (fun h => (kt h) lv hl) (fun h => (kf h) lv hl))
theorem w_X1_takeUnit_134 {Q : qQ} {I : qMI} {L : qML} {R : qMR} {a1 : Int32} (k : wkB l G (d + 1) n_X1_takeUnit Q 139 [.ref 3, .int a1] [.int 1, .ref 3] I L R) : wkB l G (d + 1) n_X1_takeUnit Q 134 [.ref 3, .int a1] [.ref 3] I L R :=
  bb_lift (fun _ => q_iconst (n := 1) (zd (i := .iconst (1)) (n := 1) (by decide +kernel)) rfl) <|
  bb_lift (fun _ => q_goto (off := 4) (tgt := 139) (zd (i := .goto (4)) (n := 3) (by decide +kernel)) (by decide)) k
theorem w_X1_takeUnit_138 {Q : qQ} {I : qMI} {L : qML} {R : qMR} {a1 : Int32} (k : wkB l G (d + 1) n_X1_takeUnit Q 139 [.ref 3, .int a1] [.int 0, .ref 3] I L R) : wkB l G (d + 1) n_X1_takeUnit Q 138 [.ref 3, .int a1] [.ref 3] I L R :=
  bb_lift (fun _ => q_iconst (n := 0) (zd (i := .iconst (0)) (n := 1) (by decide +kernel)) rfl) <|
  k
theorem w_X1_takeUnit_139 {Q : qQ} {I : qMI} {L : qML} {R : qMR} {a1 : Int32} {s1 : Int32} {P : qMI → qML → qMR → Prop} (hc : wkCv l G d n_X1_take [.ref 3, .int s1] I L R P) (kk : ∀ I' L' R', P I' L' R' → wkB l G (d + 1) n_X1_takeUnit Q 142 [.ref 3, .int a1] [] I' L' R') : wkB l G (d + 1) n_X1_takeUnit Q 139 [.ref 3, .int a1] [.int s1, .ref 3] I L R :=
  bb_callV (idx := 71) (k := 3) (ci := 1) (N := n_X1_take) (As := [.int s1]) (st := []) (zd (i := .invokevirtual 71) (n := 3) (by decide +kernel)) to_X1_take g626 g628 g7 (Nat.le_of_ble_eq_true rfl) (by decide +kernel) (by decide +kernel) (by decide +kernel) rfl rfl rfl hc (fun r I' L' R' hq => by obtain ⟨rfl, hp⟩ := hq; exact kk I' L' R' hp)
theorem w_X1_takeUnit_142 {Q : qQ} {I : qMI} {L : qML} {R : qMR} {a1 : Int32} (k : wkB l G (d + 1) n_X1_takeUnit Q 163 [.ref 3, .int a1] [] I L R) : wkB l G (d + 1) n_X1_takeUnit Q 142 [.ref 3, .int a1] [] I L R :=
  bb_lift (fun _ => q_goto (off := 21) (tgt := 163) (zd (i := .goto (21)) (n := 3) (by decide +kernel)) (by decide)) k
theorem w_X1_takeUnit_145 {Q : qQ} {I : qMI} {L : qML} {R : qMR} {a1 : Int32} (kt : ¬ (I 3 3) = 40 → wkB l G (d + 1) n_X1_takeUnit Q 159 [.ref 3, .int a1] [.ref 3] I L R) (kf : (I 3 3) = 40 → wkB l G (d + 1) n_X1_takeUnit Q 155 [.ref 3, .int a1] [.ref 3] I L R) : wkB l G (d + 1) n_X1_takeUnit Q 145 [.ref 3, .int a1] [] I L R :=
  bb_aload_n (n := 0) (i := 0) (zd (i := .aload_n 0) (n := 1) (by decide +kernel)) rfl rfl <|
  bb_aload_n (n := 0) (i := 0) (zd (i := .aload_n 0) (n := 1) (by decide +kernel)) rfl rfl <|
  bb_geti (k := 3) (ci := 1) (j := 3) (idx := 29) (zd (i := .getfield 29) (n := 3) (by decide +kernel)) (by decide +kernel) (by decide +kernel) (by decide +kernel) (by decide +kernel) rfl g338 <|
  bb_lift (fun _ => q_bipush (n := 40) (zd (i := .bipush (40)) (n := 2) (by decide +kernel)) rfl) <|
  (fun lv hl => q_icmp_ne (off := 7) (tgt := 159) (zd (i := .if_icmp .ne (7)) (n := 3) (by decide +kernel)) (by decide) (fun h => (kt h) lv hl) (fun h => (kf h) lv hl))
theorem w_X1_takeUnit_155 {Q : qQ} {I : qMI} {L : qML} {R : qMR} {a1 : Int32} (k : wkB l G (d + 1) n_X1_takeUnit Q 160 [.ref 3, .int a1] [.int 2, .ref 3] I L R) : wkB l G (d + 1) n_X1_takeUnit Q 155 [.ref 3, .int a1] [.ref 3] I L R :=
  bb_lift (fun _ => q_iconst (n := 2) (zd (i := .iconst (2)) (n := 1) (by decide +kernel)) rfl) <|
  bb_lift (fun _ => q_goto (off := 4) (tgt := 160) (zd (i := .goto (4)) (n := 3) (by decide +kernel)) (by decide)) k
theorem w_X1_takeUnit_159 {Q : qQ} {I : qMI} {L : qML} {R : qMR} {a1 : Int32} (k : wkB l G (d + 1) n_X1_takeUnit Q 160 [.ref 3, .int a1] [.int 1, .ref 3] I L R) : wkB l G (d + 1) n_X1_takeUnit Q 159 [.ref 3, .int a1] [.ref 3] I L R :=
  bb_lift (fun _ => q_iconst (n := 1) (zd (i := .iconst (1)) (n := 1) (by decide +kernel)) rfl) <|
  k
theorem w_X1_takeUnit_160 {Q : qQ} {I : qMI} {L : qML} {R : qMR} {a1 : Int32} {s1 : Int32} {P : qMI → qML → qMR → Prop} (hc : wkCv l G d n_X1_fail [.ref 3, .int s1] I L R P) (kk : ∀ I' L' R', P I' L' R' → wkB l G (d + 1) n_X1_takeUnit Q 163 [.ref 3, .int a1] [] I' L' R') : wkB l G (d + 1) n_X1_takeUnit Q 160 [.ref 3, .int a1] [.int s1, .ref 3] I L R :=
  bb_callV (idx := 67) (k := 3) (ci := 1) (N := n_X1_fail) (As := [.int s1]) (st := []) (zd (i := .invokevirtual 67) (n := 3) (by decide +kernel)) to_X1_fail g622 g624 g6 (Nat.le_of_ble_eq_true rfl) (by decide +kernel) (by decide +kernel) (by decide +kernel) rfl rfl rfl hc (fun r I' L' R' hq => by obtain ⟨rfl, hp⟩ := hq; exact kk I' L' R' hp)
theorem w_X1_takeUnit_163 {Q : qQ} {I : qMI} {L : qML} {R : qMR} {a1 : Int32} (hQ : Q none 336 I L R) : wkB l G (d + 1) n_X1_takeUnit Q 163 [.ref 3, .int a1] [] I L R :=
  (fun lv hl => q_vret (zd (i := .return_) (n := 1) (by decide +kernel)) rfl (Nat.le_refl _) (Nat.le_refl _) hQ)
theorem w_X1_parse_0 {Q : qQ} {I : qMI} {L : qML} {R : qMR} {o : Nat} (ho : o = 9 ∨ o = 259)  (h1 : R 3 1 = some o) {P : qMI → qML → qMR → Prop} (hc : wkCv l G d n_X0_clear [.ref o] (qUp (qUp (qUp (qUp I 3 4 0) 3 5 (-1)) 3 6 0) 3 7 (-1)) L R P) (kk : ∀ I' L' R', P I' L' R' → wkB l G (d + 1) n_X1_parse Q 27 [.ref 3, .ref 1, wkU] [] I' L' R') : wkB l G (d + 1) n_X1_parse Q 0 [.ref 3, .ref 1, wkU] [] I L R :=
  bb_aload_n (n := 0) (i := 0) (zd (i := .aload_n 0) (n := 1) (by decide +kernel)) rfl rfl <|
  bb_lift (fun _ => q_iconst (n := 0) (zd (i := .iconst (0)) (n := 1) (by decide +kernel)) rfl) <|
  bb_puti (k := 3) (ci := 1) (j := 4) (idx := 32) (zd (i := .putfield 32) (n := 3) (by decide +kernel)) (by decide +kernel) (by decide +kernel) (by decide +kernel) (by decide +kernel) g339 rfl rfl <|
  bb_aload_n (n := 0) (i := 0) (zd (i := .aload_n 0) (n := 1) (by decide +kernel)) rfl rfl <|
  bb_lift (fun _ => q_iconst (n := -1) (zd (i := .iconst (-1)) (n := 1) (by decide +kernel)) rfl) <|
  bb_puti (k := 3) (ci := 1) (j := 5) (idx := 35) (zd (i := .putfield 35) (n := 3) (by decide +kernel)) (by decide +kernel) (by decide +kernel) (by decide +kernel) (by decide +kernel) g340 rfl rfl <|
  bb_aload_n (n := 0) (i := 0) (zd (i := .aload_n 0) (n := 1) (by decide +kernel)) rfl rfl <|
  bb_lift (fun _ => q_iconst (n := 0) (zd (i := .iconst (0)) (n := 1) (by decide +kernel)) rfl) <|
  bb_puti (k := 3) (ci := 1) (j := 6) (idx := 38) (zd (i := .putfield 38) (n := 3) (by decide +kernel)) (by decide +kernel) (by decide +kernel) (by decide +kernel) (by decide +kernel) g342 rfl rfl <|
  bb_aload_n (n := 0) (i := 0) (zd (i := .aload_n 0) (n := 1) (by decide +kernel)) rfl rfl <|
  bb_lift (fun _ => q_iconst (n := -1) (zd (i := .iconst (-1)) (n := 1) (by decide +kernel)) rfl) <|
  bb_puti (k := 3) (ci := 1) (j := 7) (idx := 41) (zd (i := .putfield 41) (n := 3) (by decide +kernel)) (by decide +kernel) (by decide +kernel) (by decide +kernel) (by decide +kernel) g343 rfl rfl <|
  bb_aload_n (n := 0) (i := 0) (zd (i := .aload_n 0) (n := 1) (by decide +kernel)) rfl rfl <|
  bb_getr (k := 3) (ci := 1) (j := 1) (idx := 21) (a := o) (zd (i := .getfield 21) (n := 3) (by decide +kernel)) (by decide +kernel) (by decide +kernel) (by decide +kernel) (by decide +kernel) rfl g336 h1 <|
  bb_callV (idx := 44) (k := o) (ci := 0) (N := n_X0_clear) (As := []) (st := []) (zd (i := .invokevirtual 44) (n := 3) (by decide +kernel)) to_X0_clear g523 g257 g258 (Nat.le_of_ble_eq_true rfl) (by rcases ho with rfl | rfl <;> decide +kernel) (by rcases ho with rfl | rfl <;> decide +kernel) (by decide +kernel) rfl rfl rfl hc (fun r I' L' R' hq => by obtain ⟨rfl, hp⟩ := hq; exact kk I' L' R' hp)
theorem w_X1_parse_27 {Q : qQ} {I : qMI} {L : qML} {R : qMR}  (h1 : R 3 0 = some 4) {P : qMI → qML → qMR → Prop} (hc : wkCv l G d n_X6_scan [.ref 4, .ref 1] I L R P) (kk : ∀ I' L' R', P I' L' R' → wkB l G (d + 1) n_X1_parse Q 35 [.ref 3, .ref 1, wkU] [] I' L' R') : wkB l G (d + 1) n_X1_parse Q 27 [.ref 3, .ref 1, wkU] [] I L R :=
  bb_aload_n (n := 0) (i := 0) (zd (i := .aload_n 0) (n := 1) (by decide +kernel)) rfl rfl <|
  bb_getr (k := 3) (ci := 1) (j := 0) (idx := 12) (a := 4) (zd (i := .getfield 12) (n := 3) (by decide +kernel)) (by decide +kernel) (by decide +kernel) (by decide +kernel) (by decide +kernel) rfl g335 h1 <|
  bb_aload_n (n := 1) (i := 1) (zd (i := .aload_n 1) (n := 1) (by decide +kernel)) rfl rfl <|
  bb_callV (idx := 47) (k := 4) (ci := 6) (N := n_X6_scan) (As := [.ref 1]) (st := []) (zd (i := .invokevirtual 47) (n := 3) (by decide +kernel)) to_X6_scan g524 g525 g526 (Nat.le_of_ble_eq_true rfl) (by decide +kernel) (by decide +kernel) (by decide +kernel) rfl rfl rfl hc (fun r I' L' R' hq => by obtain ⟨rfl, hp⟩ := hq; exact kk I' L' R' hp)
theorem w_X1_parse_35 {Q : qQ} {I : qMI} {L : qML} {R : qMR}  (h1 : R 3 0 = some 4) (h2 : R 4 1 = some 6) (h3 : vp_in ((qUp I 3 2 0) 3 2) 401) (k : wkB l G (d + 1) n_X1_parse Q 58 [.ref 3, .ref 1, .int 0] [] (qUp (qUp I 3 2 0) 3 3 ((qUp I 3 2 0) 6 ((qUp I 3 2 0) 3 2).toNatClampNeg)) L R) : wkB l G (d + 1) n_X1_parse Q 35 [.ref 3, .ref 1, wkU] [] I L R :=
  bb_aload_n (n := 0) (i := 0) (zd (i := .aload_n 0) (n := 1) (by decide +kernel)) rfl rfl <|
  bb_lift (fun _ => q_iconst (n := 0) (zd (i := .iconst (0)) (n := 1) (by decide +kernel)) rfl) <|
  bb_puti (k := 3) (ci := 1) (j := 2) (idx := 25) (zd (i := .putfield 25) (n := 3) (by decide +kernel)) (by decide +kernel) (by decide +kernel) (by decide +kernel) (by decide +kernel) g337 rfl rfl <|
  bb_aload_n (n := 0) (i := 0) (zd (i := .aload_n 0) (n := 1) (by decide +kernel)) rfl rfl <|
  bb_aload_n (n := 0) (i := 0) (zd (i := .aload_n 0) (n := 1) (by decide +kernel)) rfl rfl <|
  bb_getr (k := 3) (ci := 1) (j := 0) (idx := 12) (a := 4) (zd (i := .getfield 12) (n := 3) (by decide +kernel)) (by decide +kernel) (by decide +kernel) (by decide +kernel) (by decide +kernel) rfl g335 h1 <|
  bb_getr (k := 4) (ci := 6) (j := 1) (idx := 51) (a := 6) (zd (i := .getfield 51) (n := 3) (by decide +kernel)) (by decide +kernel) (by decide +kernel) (by decide +kernel) (by decide +kernel) rfl g206 h2 <|
  bb_aload_n (n := 0) (i := 0) (zd (i := .aload_n 0) (n := 1) (by decide +kernel)) rfl rfl <|
  bb_geti (k := 3) (ci := 1) (j := 2) (idx := 25) (zd (i := .getfield 25) (n := 3) (by decide +kernel)) (by decide +kernel) (by decide +kernel) (by decide +kernel) (by decide +kernel) rfl g337 <|
  bb_lift (fun _ => q_iald (k := 6) (zd (i := .iaload) (n := 1) (by decide +kernel)) (by decide +kernel) (by decide +kernel) h3) <|
  bb_puti (k := 3) (ci := 1) (j := 3) (idx := 29) (zd (i := .putfield 29) (n := 3) (by decide +kernel)) (by decide +kernel) (by decide +kernel) (by decide +kernel) (by decide +kernel) g338 rfl rfl <|
  bb_lift (fun _ => q_iconst (n := 0) (zd (i := .iconst (0)) (n := 1) (by decide +kernel)) rfl) <|
  bb_istore_n (n := 2) (i := 2) (zd (i := .istore_n 2) (n := 1) (by decide +kernel)) rfl (by decide +kernel) (wkNl_r rfl) <|
  k
theorem w_X1_parse_58 {Q : qQ} {I : qMI} {L : qML} {R : qMR} {a2 : Int32} (kt : 400 < a2 → wkB l G (d + 1) n_X1_parse Q 89 [.ref 3, .ref 1, .int a2] [] I L R) (kf : ¬ 400 < a2 → wkB l G (d + 1) n_X1_parse Q 65 [.ref 3, .ref 1, .int a2] [] I L R) : wkB l G (d + 1) n_X1_parse Q 58 [.ref 3, .ref 1, .int a2] [] I L R :=
  bb_iload_n (n := 2) (i := 2) (zd (i := .iload_n 2) (n := 1) (by decide +kernel)) rfl rfl <|
  bb_lift (fun _ => q_sipush (n := 400) (zd (i := .sipush (400)) (n := 3) (by decide +kernel)) rfl) <|
  (fun lv hl => q_icmp_gt (off := 27) (tgt := 89) (zd (i := .if_icmp .gt (27)) (n := 3) (by decide +kernel)) (by decide) (fun h => (kt h) lv hl) (fun h => (kf h) lv hl))
theorem w_X1_parse_65 {Q : qQ} {I : qMI} {L : qML} {R : qMR} {a2 : Int32} (kt : ¬ (I 3 4) = 0 → wkB l G (d + 1) n_X1_parse Q 89 [.ref 3, .ref 1, .int a2] [] I L R) (kf : (I 3 4) = 0 → wkB l G (d + 1) n_X1_parse Q 72 [.ref 3, .ref 1, .int a2] [] I L R) : wkB l G (d + 1) n_X1_parse Q 65 [.ref 3, .ref 1, .int a2] [] I L R :=
  bb_aload_n (n := 0) (i := 0) (zd (i := .aload_n 0) (n := 1) (by decide +kernel)) rfl rfl <|
  bb_geti (k := 3) (ci := 1) (j := 4) (idx := 32) (zd (i := .getfield 32) (n := 3) (by decide +kernel)) (by decide +kernel) (by decide +kernel) (by decide +kernel) (by decide +kernel) rfl g339 <|
  (fun lv hl => q_if_ne (off := 20) (tgt := 89) (zd (i := .ifCond .ne (20)) (n := 3) (by decide +kernel)) (by decide) (fun h => (kt h) lv hl) (fun h => (kf h) lv hl))
theorem w_X1_parse_72 {Q : qQ} {I : qMI} {L : qML} {R : qMR} {a2 : Int32} (kt : (I 3 3) = 0 → wkB l G (d + 1) n_X1_parse Q 89 [.ref 3, .ref 1, .int a2] [] I L R) (kf : ¬ (I 3 3) = 0 → wkB l G (d + 1) n_X1_parse Q 79 [.ref 3, .ref 1, .int a2] [] I L R) : wkB l G (d + 1) n_X1_parse Q 72 [.ref 3, .ref 1, .int a2] [] I L R :=
  bb_aload_n (n := 0) (i := 0) (zd (i := .aload_n 0) (n := 1) (by decide +kernel)) rfl rfl <|
  bb_geti (k := 3) (ci := 1) (j := 3) (idx := 29) (zd (i := .getfield 29) (n := 3) (by decide +kernel)) (by decide +kernel) (by decide +kernel) (by decide +kernel) (by decide +kernel) rfl g338 <|
  (fun lv hl => q_if_eq (off := 13) (tgt := 89) (zd (i := .ifCond .eq (13)) (n := 3) (by decide +kernel)) (by decide) (fun h => (kt h) lv hl) (fun h => (kf h) lv hl))
theorem w_X1_parse_79 {Q : qQ} {I : qMI} {L : qML} {R : qMR} {a2 : Int32} {P : qMI → qML → qMR → Prop} (hc : wkCv l G d n_X1_takeTell [.ref 3] I L R P) (kk : ∀ I' L' R', P I' L' R' → wkB l G (d + 1) n_X1_parse Q 83 [.ref 3, .ref 1, .int a2] [] I' L' R') : wkB l G (d + 1) n_X1_parse Q 79 [.ref 3, .ref 1, .int a2] [] I L R :=
  bb_aload_n (n := 0) (i := 0) (zd (i := .aload_n 0) (n := 1) (by decide +kernel)) rfl rfl <|
  bb_callV (idx := 55) (k := 3) (ci := 1) (N := n_X1_takeTell) (As := []) (st := []) (zd (i := .invokevirtual 55) (n := 3) (by decide +kernel)) to_X1_takeTell g618 g620 g5 (Nat.le_of_ble_eq_true rfl) (by decide +kernel) (by decide +kernel) (by decide +kernel) rfl rfl rfl hc (fun r I' L' R' hq => by obtain ⟨rfl, hp⟩ := hq; exact kk I' L' R' hp)
theorem w_X1_parse_83 {Q : qQ} {I : qMI} {L : qML} {R : qMR} {a2 : Int32} (k : wkB l G (d + 1) n_X1_parse Q 58 [.ref 3, .ref 1, .int (a2 + 1)] [] I L R) : wkB l G (d + 1) n_X1_parse Q 83 [.ref 3, .ref 1, .int a2] [] I L R :=
  bb_iinc (i := 2) (n := 1) (zd (i := .iinc 2 (1)) (n := 3) (by decide +kernel)) rfl rfl (by decide +kernel) (wkNl_r rfl) <|
  bb_lift (fun _ => q_goto (off := -28) (tgt := 58) (zd (i := .goto (-28)) (n := 3) (by decide +kernel)) (by decide)) k
theorem w_X1_parse_89 {Q : qQ} {I : qMI} {L : qML} {R : qMR} {a2 : Int32} (kt : ¬ (I 3 4) = 0 → wkB l G (d + 1) n_X1_parse Q 119 [.ref 3, .ref 1, .int a2] [] I L R) (kf : (I 3 4) = 0 → wkB l G (d + 1) n_X1_parse Q 96 [.ref 3, .ref 1, .int a2] [] I L R) : wkB l G (d + 1) n_X1_parse Q 89 [.ref 3, .ref 1, .int a2] [] I L R :=
  bb_aload_n (n := 0) (i := 0) (zd (i := .aload_n 0) (n := 1) (by decide +kernel)) rfl rfl <|
  bb_geti (k := 3) (ci := 1) (j := 4) (idx := 32) (zd (i := .getfield 32) (n := 3) (by decide +kernel)) (by decide +kernel) (by decide +kernel) (by decide +kernel) (by decide +kernel) rfl g339 <|
  (fun lv hl => q_if_ne (off := 26) (tgt := 119) (zd (i := .ifCond .ne (26)) (n := 3) (by decide +kernel)) (by decide) (fun h => (kt h) lv hl) (fun h => (kf h) lv hl))
theorem w_X1_parse_96 {Q : qQ} {I : qMI} {L : qML} {R : qMR} {a2 : Int32} (kt : (I 3 6) = 0 → wkB l G (d + 1) n_X1_parse Q 119 [.ref 3, .ref 1, .int a2] [] I L R) (kf : ¬ (I 3 6) = 0 → wkB l G (d + 1) n_X1_parse Q 103 [.ref 3, .ref 1, .int a2] [] I L R) : wkB l G (d + 1) n_X1_parse Q 96 [.ref 3, .ref 1, .int a2] [] I L R :=
  bb_aload_n (n := 0) (i := 0) (zd (i := .aload_n 0) (n := 1) (by decide +kernel)) rfl rfl <|
  bb_geti (k := 3) (ci := 1) (j := 6) (idx := 38) (zd (i := .getfield 38) (n := 3) (by decide +kernel)) (by decide +kernel) (by decide +kernel) (by decide +kernel) (by decide +kernel) rfl g342 <|
  (fun lv hl => q_if_eq (off := 19) (tgt := 119) (zd (i := .ifCond .eq (19)) (n := 3) (by decide +kernel)) (by decide) (fun h => (kt h) lv hl) (fun h => (kf h) lv hl))
theorem w_X1_parse_103 {Q : qQ} {I : qMI} {L : qML} {R : qMR} {a2 : Int32} (k : wkB l G (d + 1) n_X1_parse Q 119 [.ref 3, .ref 1, .int a2] [] (qUp (qUp I 3 4 (I 3 6)) 3 5 ((qUp I 3 4 (I 3 6)) 3 7)) L R) : wkB l G (d + 1) n_X1_parse Q 103 [.ref 3, .ref 1, .int a2] [] I L R :=
  bb_aload_n (n := 0) (i := 0) (zd (i := .aload_n 0) (n := 1) (by decide +kernel)) rfl rfl <|
  bb_aload_n (n := 0) (i := 0) (zd (i := .aload_n 0) (n := 1) (by decide +kernel)) rfl rfl <|
  bb_geti (k := 3) (ci := 1) (j := 6) (idx := 38) (zd (i := .getfield 38) (n := 3) (by decide +kernel)) (by decide +kernel) (by decide +kernel) (by decide +kernel) (by decide +kernel) rfl g342 <|
  bb_puti (k := 3) (ci := 1) (j := 4) (idx := 32) (zd (i := .putfield 32) (n := 3) (by decide +kernel)) (by decide +kernel) (by decide +kernel) (by decide +kernel) (by decide +kernel) g339 rfl rfl <|
  bb_aload_n (n := 0) (i := 0) (zd (i := .aload_n 0) (n := 1) (by decide +kernel)) rfl rfl <|
  bb_aload_n (n := 0) (i := 0) (zd (i := .aload_n 0) (n := 1) (by decide +kernel)) rfl rfl <|
  bb_geti (k := 3) (ci := 1) (j := 7) (idx := 41) (zd (i := .getfield 41) (n := 3) (by decide +kernel)) (by decide +kernel) (by decide +kernel) (by decide +kernel) (by decide +kernel) rfl g343 <|
  bb_puti (k := 3) (ci := 1) (j := 5) (idx := 35) (zd (i := .putfield 35) (n := 3) (by decide +kernel)) (by decide +kernel) (by decide +kernel) (by decide +kernel) (by decide +kernel) g340 rfl rfl <|
  k
theorem w_X1_parse_119 {Q : qQ} {I : qMI} {L : qML} {R : qMR} {a2 : Int32} (hQ : Q (some (.int (I 3 4))) 336 I L R) : wkB l G (d + 1) n_X1_parse Q 119 [.ref 3, .ref 1, .int a2] [] I L R :=
  bb_aload_n (n := 0) (i := 0) (zd (i := .aload_n 0) (n := 1) (by decide +kernel)) rfl rfl <|
  bb_geti (k := 3) (ci := 1) (j := 4) (idx := 32) (zd (i := .getfield 32) (n := 3) (by decide +kernel)) (by decide +kernel) (by decide +kernel) (by decide +kernel) (by decide +kernel) rfl g339 <|
  (fun lv hl => q_iret (zd (i := .ireturn) (n := 1) (by decide +kernel)) rfl rfl (Nat.le_refl _) (Nat.le_refl _) hQ)
theorem w_X0_addName_0 {Q : qQ} {I : qMI} {L : qML} {R : qMR} {o : Nat} (ho : o = 9 ∨ o = 259) {a1 : Int64} (k : wkB l G (d + 1) n_X0_addName Q 2 [.ref o, .long a1, wkU, .int 0] [] I L R) : wkB l G (d + 1) n_X0_addName Q 0 [.ref o, .long a1, wkU, wkU] [] I L R :=
  bb_lift (fun _ => q_iconst (n := 0) (zd (i := .iconst (0)) (n := 1) (by decide +kernel)) rfl) <|
  bb_istore_n (n := 3) (i := 3) (zd (i := .istore_n 3) (n := 1) (by decide +kernel)) rfl (by decide +kernel) (wkNl_u rfl) <|
  k
theorem w_X0_addName_2 {Q : qQ} {I : qMI} {L : qML} {R : qMR} {o : Nat} (ho : o = 9 ∨ o = 259) {a1 : Int64} {a3 : Int32} (kt : (I o 1) ≤ a3 → wkB l G (d + 1) n_X0_addName Q 29 [.ref o, .long a1, wkU, .int a3] [] I L R) (kf : ¬ (I o 1) ≤ a3 → wkB l G (d + 1) n_X0_addName Q 10 [.ref o, .long a1, wkU, .int a3] [] I L R) : wkB l G (d + 1) n_X0_addName Q 2 [.ref o, .long a1, wkU, .int a3] [] I L R :=
  bb_iload_n (n := 3) (i := 3) (zd (i := .iload_n 3) (n := 1) (by decide +kernel)) rfl rfl <|
  bb_aload_n (n := 0) (i := 0) (zd (i := .aload_n 0) (n := 1) (by decide +kernel)) rfl rfl <|
  bb_geti (k := o) (ci := 0) (j := 1) (idx := 15) (zd (i := .getfield 15) (n := 3) (by decide +kernel)) (by rcases ho with rfl | rfl <;> decide +kernel) (by rcases ho with rfl | rfl <;> decide +kernel) (by decide +kernel) (by decide +kernel) rfl g277 <|
  (fun lv hl => q_icmp_ge (off := 22) (tgt := 29) (zd (i := .if_icmp .ge (22)) (n := 3) (by decide +kernel)) (by decide) (fun h => (kt h) lv hl) (fun h => (kf h) lv hl))
theorem w_X0_addName_10 {Q : qQ} {I : qMI} {L : qML} {R : qMR} {o : Nat} (ho : o = 9 ∨ o = 259) {a1 : Int64} {a3 : Int32} (h1 : R o 0 = some (o + 1)) (h2 : vp_in a3 12) (kt : ¬ (lg_cmp (L (o + 1) a3.toNatClampNeg) a1) = 0 → wkB l G (d + 1) n_X0_addName Q 23 [.ref o, .long a1, wkU, .int a3] [] I L R) (kf : (lg_cmp (L (o + 1) a3.toNatClampNeg) a1) = 0 → wkB l G (d + 1) n_X0_addName Q 21 [.ref o, .long a1, wkU, .int a3] [] I L R) : wkB l G (d + 1) n_X0_addName Q 10 [.ref o, .long a1, wkU, .int a3] [] I L R :=
  bb_aload_n (n := 0) (i := 0) (zd (i := .aload_n 0) (n := 1) (by decide +kernel)) rfl rfl <|
  bb_getr (k := o) (ci := 0) (j := 0) (idx := 9) (a := (o + 1)) (zd (i := .getfield 9) (n := 3) (by decide +kernel)) (by rcases ho with rfl | rfl <;> decide +kernel) (by rcases ho with rfl | rfl <;> decide +kernel) (by decide +kernel) (by decide +kernel) rfl g276 h1 <|
  bb_iload_n (n := 3) (i := 3) (zd (i := .iload_n 3) (n := 1) (by decide +kernel)) rfl rfl <|
  bb_lift (fun _ => q_lald (k := (o + 1)) (zd (i := .laload) (n := 1) (by decide +kernel)) (by rcases ho with rfl | rfl <;> decide +kernel) (by rcases ho with rfl | rfl <;> decide +kernel) (by have hz := h2; rcases ho with rfl | rfl <;> exact hz)) <|
  bb_lload_n (n := 1) (i := 1) (zd (i := .lload_n 1) (n := 1) (by decide +kernel)) rfl rfl <|
  bb_lift (fun _ => q_lcmp (zd (i := .lcmp) (n := 1) (by decide +kernel))) <|
  (fun lv hl => q_if_ne (off := 5) (tgt := 23) (zd (i := .ifCond .ne (5)) (n := 3) (by decide +kernel)) (by decide) (fun h => (kt h) lv hl) (fun h => (kf h) lv hl))
theorem w_X0_addName_21 {Q : qQ} {I : qMI} {L : qML} {R : qMR} {o : Nat} (ho : o = 9 ∨ o = 259) {a1 : Int64} {a3 : Int32} (hQ : Q (some (.int 0)) 336 I L R) : wkB l G (d + 1) n_X0_addName Q 21 [.ref o, .long a1, wkU, .int a3] [] I L R :=
  bb_lift (fun _ => q_iconst (n := 0) (zd (i := .iconst (0)) (n := 1) (by decide +kernel)) rfl) <|
  (fun lv hl => q_iret (zd (i := .ireturn) (n := 1) (by decide +kernel)) rfl rfl (Nat.le_refl _) (Nat.le_refl _) hQ)
theorem w_X0_addName_23 {Q : qQ} {I : qMI} {L : qML} {R : qMR} {o : Nat} (ho : o = 9 ∨ o = 259) {a1 : Int64} {a3 : Int32} (k : wkB l G (d + 1) n_X0_addName Q 2 [.ref o, .long a1, wkU, .int (a3 + 1)] [] I L R) : wkB l G (d + 1) n_X0_addName Q 23 [.ref o, .long a1, wkU, .int a3] [] I L R :=
  bb_iinc (i := 3) (n := 1) (zd (i := .iinc 3 (1)) (n := 3) (by decide +kernel)) rfl rfl (by decide +kernel) (wkNl_u rfl) <|
  bb_lift (fun _ => q_goto (off := -24) (tgt := 2) (zd (i := .goto (-24)) (n := 3) (by decide +kernel)) (by decide)) k
theorem w_X0_addName_29 {Q : qQ} {I : qMI} {L : qML} {R : qMR} {o : Nat} (ho : o = 9 ∨ o = 259) {a1 : Int64} {a3 : Int32} (h1 : R o 0 = some (o + 1)) (kt : 12 ≤ (I o 1) → wkB l G (d + 1) n_X0_addName Q 61 [.ref o, .long a1, wkU, .int a3] [] I L R) (kf : ¬ 12 ≤ (I o 1) → wkB l G (d + 1) n_X0_addName Q 41 [.ref o, .long a1, wkU, .int a3] [] I L R) : wkB l G (d + 1) n_X0_addName Q 29 [.ref o, .long a1, wkU, .int a3] [] I L R :=
  bb_aload_n (n := 0) (i := 0) (zd (i := .aload_n 0) (n := 1) (by decide +kernel)) rfl rfl <|
  bb_geti (k := o) (ci := 0) (j := 1) (idx := 15) (zd (i := .getfield 15) (n := 3) (by decide +kernel)) (by rcases ho with rfl | rfl <;> decide +kernel) (by rcases ho with rfl | rfl <;> decide +kernel) (by decide +kernel) (by decide +kernel) rfl g277 <|
  bb_aload_n (n := 0) (i := 0) (zd (i := .aload_n 0) (n := 1) (by decide +kernel)) rfl rfl <|
  bb_getr (k := o) (ci := 0) (j := 0) (idx := 9) (a := (o + 1)) (zd (i := .getfield 9) (n := 3) (by decide +kernel)) (by rcases ho with rfl | rfl <;> decide +kernel) (by rcases ho with rfl | rfl <;> decide +kernel) (by decide +kernel) (by decide +kernel) rfl g276 h1 <|
  bb_alen (k := (o + 1)) (n := 12) (zd (i := .arraylength) (n := 1) (by decide +kernel)) (by rcases ho with rfl | rfl <;> decide +kernel) (by rcases ho with rfl | rfl <;> decide +kernel) (by rcases ho with rfl | rfl <;> decide +kernel) (by rcases ho with rfl | rfl <;> decide +kernel) <|
  (fun lv hl => q_icmp_ge (off := 23) (tgt := 61) (zd (i := .if_icmp .ge (23)) (n := 3) (by decide +kernel)) (by decide) (fun h => (kt h) lv hl) (fun h => (kf h) lv hl))
theorem w_X0_addName_41 {Q : qQ} {I : qMI} {L : qML} {R : qMR} {o : Nat} (ho : o = 9 ∨ o = 259) {a1 : Int64} {a3 : Int32} (h1 : R o 0 = some (o + 1)) (h2 : vp_in (I o 1) 12) (k : wkB l G (d + 1) n_X0_addName Q 61 [.ref o, .long a1, wkU, .int a3] [] (qUp I o 1 ((I o 1) + 1)) (qUpL L (o + 1) (I o 1).toNatClampNeg a1) R) : wkB l G (d + 1) n_X0_addName Q 41 [.ref o, .long a1, wkU, .int a3] [] I L R :=
  bb_aload_n (n := 0) (i := 0) (zd (i := .aload_n 0) (n := 1) (by decide +kernel)) rfl rfl <|
  bb_getr (k := o) (ci := 0) (j := 0) (idx := 9) (a := (o + 1)) (zd (i := .getfield 9) (n := 3) (by decide +kernel)) (by rcases ho with rfl | rfl <;> decide +kernel) (by rcases ho with rfl | rfl <;> decide +kernel) (by decide +kernel) (by decide +kernel) rfl g276 h1 <|
  bb_aload_n (n := 0) (i := 0) (zd (i := .aload_n 0) (n := 1) (by decide +kernel)) rfl rfl <|
  bb_geti (k := o) (ci := 0) (j := 1) (idx := 15) (zd (i := .getfield 15) (n := 3) (by decide +kernel)) (by rcases ho with rfl | rfl <;> decide +kernel) (by rcases ho with rfl | rfl <;> decide +kernel) (by decide +kernel) (by decide +kernel) rfl g277 <|
  bb_lload_n (n := 1) (i := 1) (zd (i := .lload_n 1) (n := 1) (by decide +kernel)) rfl rfl <|
  bb_lift (fun _ => q_last (k := (o + 1)) (zd (i := .lastore) (n := 1) (by decide +kernel)) (by rcases ho with rfl | rfl <;> decide +kernel) (by rcases ho with rfl | rfl <;> decide +kernel) (by have hz := h2; rcases ho with rfl | rfl <;> exact hz)) <|
  bb_aload_n (n := 0) (i := 0) (zd (i := .aload_n 0) (n := 1) (by decide +kernel)) rfl rfl <|
  bb_lift (fun _ => q_dup (zd (i := .dup) (n := 1) (by decide +kernel)) rfl) <|
  bb_geti (k := o) (ci := 0) (j := 1) (idx := 15) (zd (i := .getfield 15) (n := 3) (by decide +kernel)) (by rcases ho with rfl | rfl <;> decide +kernel) (by rcases ho with rfl | rfl <;> decide +kernel) (by decide +kernel) (by decide +kernel) rfl g277 <|
  bb_lift (fun _ => q_iconst (n := 1) (zd (i := .iconst (1)) (n := 1) (by decide +kernel)) rfl) <|
  bb_lift (fun _ => q_iadd (zd (i := .iadd) (n := 1) (by decide +kernel))) <|
  bb_puti (k := o) (ci := 0) (j := 1) (idx := 15) (zd (i := .putfield 15) (n := 3) (by decide +kernel)) (by rcases ho with rfl | rfl <;> decide +kernel) (by rcases ho with rfl | rfl <;> decide +kernel) (by decide +kernel) (by decide +kernel) g277 rfl rfl <|
  k
theorem w_X0_addName_61 {Q : qQ} {I : qMI} {L : qML} {R : qMR} {o : Nat} (ho : o = 9 ∨ o = 259) {a1 : Int64} {a3 : Int32} (hQ : Q (some (.int 1)) 336 I L R) : wkB l G (d + 1) n_X0_addName Q 61 [.ref o, .long a1, wkU, .int a3] [] I L R :=
  bb_lift (fun _ => q_iconst (n := 1) (zd (i := .iconst (1)) (n := 1) (by decide +kernel)) rfl) <|
  (fun lv hl => q_iret (zd (i := .ireturn) (n := 1) (by decide +kernel)) rfl rfl (Nat.le_refl _) (Nat.le_refl _) hQ)
theorem w_X0_addStander_0 {Q : qQ} {I : qMI} {L : qML} {R : qMR} {o : Nat} (ho : o = 9 ∨ o = 259) {a1 : Int32} {a2 : Int32} {a3 : Int32} (kt : a1 = 0 → wkB l G (d + 1) n_X0_addStander Q 46 [.ref o, .int a1, .int a2, .int a3] [] I L R) (kf : ¬ a1 = 0 → wkB l G (d + 1) n_X0_addStander Q 4 [.ref o, .int a1, .int a2, .int a3] [] I L R) : wkB l G (d + 1) n_X0_addStander Q 0 [.ref o, .int a1, .int a2, .int a3] [] I L R :=
  bb_iload_n (n := 1) (i := 1) (zd (i := .iload_n 1) (n := 1) (by decide +kernel)) rfl rfl <|
  (fun lv hl => q_if_eq (off := 45) (tgt := 46) (zd (i := .ifCond .eq (45)) (n := 3) (by decide +kernel)) (by decide) (fun h => (kt h) lv hl) (fun h => (kf h) lv hl))
theorem w_X0_addStander_4 {Q : qQ} {I : qMI} {L : qML} {R : qMR} {o : Nat} (ho : o = 9 ∨ o = 259) {a1 : Int32} {a2 : Int32} {a3 : Int32} (kt : 6 ≤ (I o 2) → wkB l G (d + 1) n_X0_addStander Q 46 [.ref o, .int a1, .int a2, .int a3] [] I L R) (kf : ¬ 6 ≤ (I o 2) → wkB l G (d + 1) n_X0_addStander Q 13 [.ref o, .int a1, .int a2, .int a3] [] I L R) : wkB l G (d + 1) n_X0_addStander Q 4 [.ref o, .int a1, .int a2, .int a3] [] I L R :=
  bb_aload_n (n := 0) (i := 0) (zd (i := .aload_n 0) (n := 1) (by decide +kernel)) rfl rfl <|
  bb_geti (k := o) (ci := 0) (j := 2) (idx := 19) (zd (i := .getfield 19) (n := 3) (by decide +kernel)) (by rcases ho with rfl | rfl <;> decide +kernel) (by rcases ho with rfl | rfl <;> decide +kernel) (by decide +kernel) (by decide +kernel) rfl g278 <|
  bb_lift (fun _ => q_bipush (n := 6) (zd (i := .bipush (6)) (n := 2) (by decide +kernel)) rfl) <|
  (fun lv hl => q_icmp_ge (off := 36) (tgt := 46) (zd (i := .if_icmp .ge (36)) (n := 3) (by decide +kernel)) (by decide) (fun h => (kt h) lv hl) (fun h => (kf h) lv hl))
theorem w_X0_addStander_13 {Q : qQ} {I : qMI} {L : qML} {R : qMR} {o : Nat} (ho : o = 9 ∨ o = 259) {a1 : Int32} {a2 : Int32} {a3 : Int32} (h1 : R o 3 = some (o + 2)) (h2 : vp_in (I o 2) 6) (h3 : R o 4 = some (o + 3)) (h4 : vp_in ((qUp I (o + 2) (I o 2).toNatClampNeg a2) o 2) 6) (k : wkB l G (d + 1) n_X0_addStander Q 89 [.ref o, .int a1, .int a2, .int a3] [] (qUp (qUp (qUp I (o + 2) (I o 2).toNatClampNeg a2) (o + 3) ((qUp I (o + 2) (I o 2).toNatClampNeg a2) o 2).toNatClampNeg a3) o 2 (((qUp (qUp I (o + 2) (I o 2).toNatClampNeg a2) (o + 3) ((qUp I (o + 2) (I o 2).toNatClampNeg a2) o 2).toNatClampNeg a3) o 2) + 1)) L R) : wkB l G (d + 1) n_X0_addStander Q 13 [.ref o, .int a1, .int a2, .int a3] [] I L R :=
  bb_aload_n (n := 0) (i := 0) (zd (i := .aload_n 0) (n := 1) (by decide +kernel)) rfl rfl <|
  bb_getr (k := o) (ci := 0) (j := 3) (idx := 22) (a := (o + 2)) (zd (i := .getfield 22) (n := 3) (by decide +kernel)) (by rcases ho with rfl | rfl <;> decide +kernel) (by rcases ho with rfl | rfl <;> decide +kernel) (by decide +kernel) (by decide +kernel) rfl g281 h1 <|
  bb_aload_n (n := 0) (i := 0) (zd (i := .aload_n 0) (n := 1) (by decide +kernel)) rfl rfl <|
  bb_geti (k := o) (ci := 0) (j := 2) (idx := 19) (zd (i := .getfield 19) (n := 3) (by decide +kernel)) (by rcases ho with rfl | rfl <;> decide +kernel) (by rcases ho with rfl | rfl <;> decide +kernel) (by decide +kernel) (by decide +kernel) rfl g278 <|
  bb_iload_n (n := 2) (i := 2) (zd (i := .iload_n 2) (n := 1) (by decide +kernel)) rfl rfl <|
  bb_lift (fun _ => q_iast (k := (o + 2)) (zd (i := .iastore) (n := 1) (by decide +kernel)) (by rcases ho with rfl | rfl <;> decide +kernel) (by rcases ho with rfl | rfl <;> decide +kernel) (by have hz := h2; rcases ho with rfl | rfl <;> exact hz)) <|
  bb_aload_n (n := 0) (i := 0) (zd (i := .aload_n 0) (n := 1) (by decide +kernel)) rfl rfl <|
  bb_getr (k := o) (ci := 0) (j := 4) (idx := 26) (a := (o + 3)) (zd (i := .getfield 26) (n := 3) (by decide +kernel)) (by rcases ho with rfl | rfl <;> decide +kernel) (by rcases ho with rfl | rfl <;> decide +kernel) (by decide +kernel) (by decide +kernel) rfl g283 h3 <|
  bb_aload_n (n := 0) (i := 0) (zd (i := .aload_n 0) (n := 1) (by decide +kernel)) rfl rfl <|
  bb_geti (k := o) (ci := 0) (j := 2) (idx := 19) (zd (i := .getfield 19) (n := 3) (by decide +kernel)) (by rcases ho with rfl | rfl <;> decide +kernel) (by rcases ho with rfl | rfl <;> decide +kernel) (by decide +kernel) (by decide +kernel) rfl g278 <|
  bb_iload_n (n := 3) (i := 3) (zd (i := .iload_n 3) (n := 1) (by decide +kernel)) rfl rfl <|
  bb_lift (fun _ => q_iast (k := (o + 3)) (zd (i := .iastore) (n := 1) (by decide +kernel)) (by rcases ho with rfl | rfl <;> decide +kernel) (by rcases ho with rfl | rfl <;> decide +kernel) (by have hz := h4; rcases ho with rfl | rfl <;> exact hz)) <|
  bb_aload_n (n := 0) (i := 0) (zd (i := .aload_n 0) (n := 1) (by decide +kernel)) rfl rfl <|
  bb_lift (fun _ => q_dup (zd (i := .dup) (n := 1) (by decide +kernel)) rfl) <|
  bb_geti (k := o) (ci := 0) (j := 2) (idx := 19) (zd (i := .getfield 19) (n := 3) (by decide +kernel)) (by rcases ho with rfl | rfl <;> decide +kernel) (by rcases ho with rfl | rfl <;> decide +kernel) (by decide +kernel) (by decide +kernel) rfl g278 <|
  bb_lift (fun _ => q_iconst (n := 1) (zd (i := .iconst (1)) (n := 1) (by decide +kernel)) rfl) <|
  bb_lift (fun _ => q_iadd (zd (i := .iadd) (n := 1) (by decide +kernel))) <|
  bb_puti (k := o) (ci := 0) (j := 2) (idx := 19) (zd (i := .putfield 19) (n := 3) (by decide +kernel)) (by rcases ho with rfl | rfl <;> decide +kernel) (by rcases ho with rfl | rfl <;> decide +kernel) (by decide +kernel) (by decide +kernel) g278 rfl rfl <|
  bb_lift (fun _ => q_goto (off := 46) (tgt := 89) (zd (i := .goto (46)) (n := 3) (by decide +kernel)) (by decide)) k
theorem w_X0_addStander_46 {Q : qQ} {I : qMI} {L : qML} {R : qMR} {o : Nat} (ho : o = 9 ∨ o = 259) {a1 : Int32} {a2 : Int32} {a3 : Int32} (kt : ¬ a1 = 0 → wkB l G (d + 1) n_X0_addStander Q 89 [.ref o, .int a1, .int a2, .int a3] [] I L R) (kf : a1 = 0 → wkB l G (d + 1) n_X0_addStander Q 50 [.ref o, .int a1, .int a2, .int a3] [] I L R) : wkB l G (d + 1) n_X0_addStander Q 46 [.ref o, .int a1, .int a2, .int a3] [] I L R :=
  bb_iload_n (n := 1) (i := 1) (zd (i := .iload_n 1) (n := 1) (by decide +kernel)) rfl rfl <|
  (fun lv hl => q_if_ne (off := 42) (tgt := 89) (zd (i := .ifCond .ne (42)) (n := 3) (by decide +kernel)) (by decide) (fun h => (kt h) lv hl) (fun h => (kf h) lv hl))
theorem w_X0_addStander_50 {Q : qQ} {I : qMI} {L : qML} {R : qMR} {o : Nat} (ho : o = 9 ∨ o = 259) {a1 : Int32} {a2 : Int32} {a3 : Int32} (kt : 6 ≤ (I o 5) → wkB l G (d + 1) n_X0_addStander Q 89 [.ref o, .int a1, .int a2, .int a3] [] I L R) (kf : ¬ 6 ≤ (I o 5) → wkB l G (d + 1) n_X0_addStander Q 59 [.ref o, .int a1, .int a2, .int a3] [] I L R) : wkB l G (d + 1) n_X0_addStander Q 50 [.ref o, .int a1, .int a2, .int a3] [] I L R :=
  bb_aload_n (n := 0) (i := 0) (zd (i := .aload_n 0) (n := 1) (by decide +kernel)) rfl rfl <|
  bb_geti (k := o) (ci := 0) (j := 5) (idx := 29) (zd (i := .getfield 29) (n := 3) (by decide +kernel)) (by rcases ho with rfl | rfl <;> decide +kernel) (by rcases ho with rfl | rfl <;> decide +kernel) (by decide +kernel) (by decide +kernel) rfl g285 <|
  bb_lift (fun _ => q_bipush (n := 6) (zd (i := .bipush (6)) (n := 2) (by decide +kernel)) rfl) <|
  (fun lv hl => q_icmp_ge (off := 33) (tgt := 89) (zd (i := .if_icmp .ge (33)) (n := 3) (by decide +kernel)) (by decide) (fun h => (kt h) lv hl) (fun h => (kf h) lv hl))
theorem w_X0_addStander_59 {Q : qQ} {I : qMI} {L : qML} {R : qMR} {o : Nat} (ho : o = 9 ∨ o = 259) {a1 : Int32} {a2 : Int32} {a3 : Int32} (h1 : R o 6 = some (o + 4)) (h2 : vp_in (I o 5) 6) (h3 : R o 7 = some (o + 5)) (h4 : vp_in ((qUp I (o + 4) (I o 5).toNatClampNeg a2) o 5) 6) (k : wkB l G (d + 1) n_X0_addStander Q 89 [.ref o, .int a1, .int a2, .int a3] [] (qUp (qUp (qUp I (o + 4) (I o 5).toNatClampNeg a2) (o + 5) ((qUp I (o + 4) (I o 5).toNatClampNeg a2) o 5).toNatClampNeg a3) o 5 (((qUp (qUp I (o + 4) (I o 5).toNatClampNeg a2) (o + 5) ((qUp I (o + 4) (I o 5).toNatClampNeg a2) o 5).toNatClampNeg a3) o 5) + 1)) L R) : wkB l G (d + 1) n_X0_addStander Q 59 [.ref o, .int a1, .int a2, .int a3] [] I L R :=
  bb_aload_n (n := 0) (i := 0) (zd (i := .aload_n 0) (n := 1) (by decide +kernel)) rfl rfl <|
  bb_getr (k := o) (ci := 0) (j := 6) (idx := 32) (a := (o + 4)) (zd (i := .getfield 32) (n := 3) (by decide +kernel)) (by rcases ho with rfl | rfl <;> decide +kernel) (by rcases ho with rfl | rfl <;> decide +kernel) (by decide +kernel) (by decide +kernel) rfl g289 h1 <|
  bb_aload_n (n := 0) (i := 0) (zd (i := .aload_n 0) (n := 1) (by decide +kernel)) rfl rfl <|
  bb_geti (k := o) (ci := 0) (j := 5) (idx := 29) (zd (i := .getfield 29) (n := 3) (by decide +kernel)) (by rcases ho with rfl | rfl <;> decide +kernel) (by rcases ho with rfl | rfl <;> decide +kernel) (by decide +kernel) (by decide +kernel) rfl g285 <|
  bb_iload_n (n := 2) (i := 2) (zd (i := .iload_n 2) (n := 1) (by decide +kernel)) rfl rfl <|
  bb_lift (fun _ => q_iast (k := (o + 4)) (zd (i := .iastore) (n := 1) (by decide +kernel)) (by rcases ho with rfl | rfl <;> decide +kernel) (by rcases ho with rfl | rfl <;> decide +kernel) (by have hz := h2; rcases ho with rfl | rfl <;> exact hz)) <|
  bb_aload_n (n := 0) (i := 0) (zd (i := .aload_n 0) (n := 1) (by decide +kernel)) rfl rfl <|
  bb_getr (k := o) (ci := 0) (j := 7) (idx := 35) (a := (o + 5)) (zd (i := .getfield 35) (n := 3) (by decide +kernel)) (by rcases ho with rfl | rfl <;> decide +kernel) (by rcases ho with rfl | rfl <;> decide +kernel) (by decide +kernel) (by decide +kernel) rfl g291 h3 <|
  bb_aload_n (n := 0) (i := 0) (zd (i := .aload_n 0) (n := 1) (by decide +kernel)) rfl rfl <|
  bb_geti (k := o) (ci := 0) (j := 5) (idx := 29) (zd (i := .getfield 29) (n := 3) (by decide +kernel)) (by rcases ho with rfl | rfl <;> decide +kernel) (by rcases ho with rfl | rfl <;> decide +kernel) (by decide +kernel) (by decide +kernel) rfl g285 <|
  bb_iload_n (n := 3) (i := 3) (zd (i := .iload_n 3) (n := 1) (by decide +kernel)) rfl rfl <|
  bb_lift (fun _ => q_iast (k := (o + 5)) (zd (i := .iastore) (n := 1) (by decide +kernel)) (by rcases ho with rfl | rfl <;> decide +kernel) (by rcases ho with rfl | rfl <;> decide +kernel) (by have hz := h4; rcases ho with rfl | rfl <;> exact hz)) <|
  bb_aload_n (n := 0) (i := 0) (zd (i := .aload_n 0) (n := 1) (by decide +kernel)) rfl rfl <|
  bb_lift (fun _ => q_dup (zd (i := .dup) (n := 1) (by decide +kernel)) rfl) <|
  bb_geti (k := o) (ci := 0) (j := 5) (idx := 29) (zd (i := .getfield 29) (n := 3) (by decide +kernel)) (by rcases ho with rfl | rfl <;> decide +kernel) (by rcases ho with rfl | rfl <;> decide +kernel) (by decide +kernel) (by decide +kernel) rfl g285 <|
  bb_lift (fun _ => q_iconst (n := 1) (zd (i := .iconst (1)) (n := 1) (by decide +kernel)) rfl) <|
  bb_lift (fun _ => q_iadd (zd (i := .iadd) (n := 1) (by decide +kernel))) <|
  bb_puti (k := o) (ci := 0) (j := 5) (idx := 29) (zd (i := .putfield 29) (n := 3) (by decide +kernel)) (by rcases ho with rfl | rfl <;> decide +kernel) (by rcases ho with rfl | rfl <;> decide +kernel) (by decide +kernel) (by decide +kernel) g285 rfl rfl <|
  k
theorem w_X0_addStander_89 {Q : qQ} {I : qMI} {L : qML} {R : qMR} {o : Nat} (ho : o = 9 ∨ o = 259) {a1 : Int32} {a2 : Int32} {a3 : Int32} (hQ : Q none 336 I L R) : wkB l G (d + 1) n_X0_addStander Q 89 [.ref o, .int a1, .int a2, .int a3] [] I L R :=
  (fun lv hl => q_vret (zd (i := .return_) (n := 1) (by decide +kernel)) rfl (Nat.le_refl _) (Nat.le_refl _) hQ)
theorem w_X0_clear_0 {Q : qQ} {I : qMI} {L : qML} {R : qMR} {o : Nat} (ho : o = 9 ∨ o = 259)  (h1 : R o 12 = some (o + 6)) {P : qMI → qML → qMR → Prop} (hc : wkCv l G d n_X2_clear [.ref (o + 6)] (qUp (qUp (qUp (qUp (qUp (qUp (qUp I o 1 0) o 2 0) o 5 0) o 8 24) o 9 0) o 10 0) o 11 0) L R P) (kk : ∀ I' L' R', P I' L' R' → wkB l G (d + 1) n_X0_clear Q 43 [.ref o] [] I' L' R') : wkB l G (d + 1) n_X0_clear Q 0 [.ref o] [] I L R :=
  bb_aload_n (n := 0) (i := 0) (zd (i := .aload_n 0) (n := 1) (by decide +kernel)) rfl rfl <|
  bb_lift (fun _ => q_iconst (n := 0) (zd (i := .iconst (0)) (n := 1) (by decide +kernel)) rfl) <|
  bb_puti (k := o) (ci := 0) (j := 1) (idx := 15) (zd (i := .putfield 15) (n := 3) (by decide +kernel)) (by rcases ho with rfl | rfl <;> decide +kernel) (by rcases ho with rfl | rfl <;> decide +kernel) (by decide +kernel) (by decide +kernel) g277 rfl rfl <|
  bb_aload_n (n := 0) (i := 0) (zd (i := .aload_n 0) (n := 1) (by decide +kernel)) rfl rfl <|
  bb_lift (fun _ => q_iconst (n := 0) (zd (i := .iconst (0)) (n := 1) (by decide +kernel)) rfl) <|
  bb_puti (k := o) (ci := 0) (j := 2) (idx := 19) (zd (i := .putfield 19) (n := 3) (by decide +kernel)) (by rcases ho with rfl | rfl <;> decide +kernel) (by rcases ho with rfl | rfl <;> decide +kernel) (by decide +kernel) (by decide +kernel) g278 rfl rfl <|
  bb_aload_n (n := 0) (i := 0) (zd (i := .aload_n 0) (n := 1) (by decide +kernel)) rfl rfl <|
  bb_lift (fun _ => q_iconst (n := 0) (zd (i := .iconst (0)) (n := 1) (by decide +kernel)) rfl) <|
  bb_puti (k := o) (ci := 0) (j := 5) (idx := 29) (zd (i := .putfield 29) (n := 3) (by decide +kernel)) (by rcases ho with rfl | rfl <;> decide +kernel) (by rcases ho with rfl | rfl <;> decide +kernel) (by decide +kernel) (by decide +kernel) g285 rfl rfl <|
  bb_aload_n (n := 0) (i := 0) (zd (i := .aload_n 0) (n := 1) (by decide +kernel)) rfl rfl <|
  bb_lift (fun _ => q_bipush (n := 24) (zd (i := .bipush (24)) (n := 2) (by decide +kernel)) rfl) <|
  bb_puti (k := o) (ci := 0) (j := 8) (idx := 38) (zd (i := .putfield 38) (n := 3) (by decide +kernel)) (by rcases ho with rfl | rfl <;> decide +kernel) (by rcases ho with rfl | rfl <;> decide +kernel) (by decide +kernel) (by decide +kernel) g293 rfl rfl <|
  bb_aload_n (n := 0) (i := 0) (zd (i := .aload_n 0) (n := 1) (by decide +kernel)) rfl rfl <|
  bb_lift (fun _ => q_iconst (n := 0) (zd (i := .iconst (0)) (n := 1) (by decide +kernel)) rfl) <|
  bb_puti (k := o) (ci := 0) (j := 9) (idx := 41) (zd (i := .putfield 41) (n := 3) (by decide +kernel)) (by rcases ho with rfl | rfl <;> decide +kernel) (by rcases ho with rfl | rfl <;> decide +kernel) (by decide +kernel) (by decide +kernel) g295 rfl rfl <|
  bb_aload_n (n := 0) (i := 0) (zd (i := .aload_n 0) (n := 1) (by decide +kernel)) rfl rfl <|
  bb_lift (fun _ => q_iconst (n := 0) (zd (i := .iconst (0)) (n := 1) (by decide +kernel)) rfl) <|
  bb_puti (k := o) (ci := 0) (j := 10) (idx := 44) (zd (i := .putfield 44) (n := 3) (by decide +kernel)) (by rcases ho with rfl | rfl <;> decide +kernel) (by rcases ho with rfl | rfl <;> decide +kernel) (by decide +kernel) (by decide +kernel) g298 rfl rfl <|
  bb_aload_n (n := 0) (i := 0) (zd (i := .aload_n 0) (n := 1) (by decide +kernel)) rfl rfl <|
  bb_lift (fun _ => q_iconst (n := 0) (zd (i := .iconst (0)) (n := 1) (by decide +kernel)) rfl) <|
  bb_puti (k := o) (ci := 0) (j := 11) (idx := 47) (zd (i := .putfield 47) (n := 3) (by decide +kernel)) (by rcases ho with rfl | rfl <;> decide +kernel) (by rcases ho with rfl | rfl <;> decide +kernel) (by decide +kernel) (by decide +kernel) g301 rfl rfl <|
  bb_aload_n (n := 0) (i := 0) (zd (i := .aload_n 0) (n := 1) (by decide +kernel)) rfl rfl <|
  bb_getr (k := o) (ci := 0) (j := 12) (idx := 53) (a := (o + 6)) (zd (i := .getfield 53) (n := 3) (by decide +kernel)) (by rcases ho with rfl | rfl <;> decide +kernel) (by rcases ho with rfl | rfl <;> decide +kernel) (by decide +kernel) (by decide +kernel) rfl g304 h1 <|
  bb_callV (idx := 60) (k := (o + 6)) (ci := 2) (N := n_X2_clear) (As := []) (st := []) (zd (i := .invokevirtual 60) (n := 3) (by decide +kernel)) to_X2_clear g260 g261 g262 (Nat.le_of_ble_eq_true rfl) (by rcases ho with rfl | rfl <;> decide +kernel) (by rcases ho with rfl | rfl <;> decide +kernel) (by decide +kernel) rfl rfl rfl hc (fun r I' L' R' hq => by obtain ⟨rfl, hp⟩ := hq; exact kk I' L' R' hp)
theorem w_X0_clear_43 {Q : qQ} {I : qMI} {L : qML} {R : qMR} {o : Nat} (ho : o = 9 ∨ o = 259)  (hQ : Q none 336 I L R) : wkB l G (d + 1) n_X0_clear Q 43 [.ref o] [] I L R :=
  (fun lv hl => q_vret (zd (i := .return_) (n := 1) (by decide +kernel)) rfl (Nat.le_refl _) (Nat.le_refl _) hQ)
theorem w_X2_open_0 {Q : qQ} {I : qMI} {L : qML} {R : qMR} {o : Nat} (ho : o = 9 ∨ o = 259) {a1 : Int32} (kt : a1 < 0 → wkB l G (d + 1) n_X2_open Q 19 [.ref (o + 6), .int a1] [] I L R) (kf : ¬ a1 < 0 → wkB l G (d + 1) n_X2_open Q 4 [.ref (o + 6), .int a1] [] I L R) : wkB l G (d + 1) n_X2_open Q 0 [.ref (o + 6), .int a1] [] I L R :=
  bb_iload_n (n := 1) (i := 1) (zd (i := .iload_n 1) (n := 1) (by decide +kernel)) rfl rfl <|
  (fun lv hl => q_if_lt (off := 18) (tgt := 19) (zd (i := .ifCond .lt (18)) (n := 3) (by decide +kernel)) (by decide) (fun h => (kt h) lv hl) (fun h => (kf h) lv hl))
theorem w_X2_open_4 {Q : qQ} {I : qMI} {L : qML} {R : qMR} {o : Nat} (ho : o = 9 ∨ o = 259) {a1 : Int32} (kt : 5 ≤ a1 → wkB l G (d + 1) n_X2_open Q 19 [.ref (o + 6), .int a1] [] I L R) (kf : ¬ 5 ≤ a1 → wkB l G (d + 1) n_X2_open Q 9 [.ref (o + 6), .int a1] [] I L R) : wkB l G (d + 1) n_X2_open Q 4 [.ref (o + 6), .int a1] [] I L R :=
  bb_iload_n (n := 1) (i := 1) (zd (i := .iload_n 1) (n := 1) (by decide +kernel)) rfl rfl <|
  bb_lift (fun _ => q_iconst (n := 5) (zd (i := .iconst (5)) (n := 1) (by decide +kernel)) rfl) <|
  (fun lv hl => q_icmp_ge (off := 13) (tgt := 19) (zd (i := .if_icmp .ge (13)) (n := 3) (by decide +kernel)) (by decide) (fun h => (kt h) lv hl) (fun h => (kf h) lv hl))
theorem w_X2_open_9 {Q : qQ} {I : qMI} {L : qML} {R : qMR} {o : Nat} (ho : o = 9 ∨ o = 259) {a1 : Int32} (h1 : R (o + 6) 3 = some (o + 9)) (h2 : vp_in a1 5) (k : wkB l G (d + 1) n_X2_open Q 19 [.ref (o + 6), .int a1] [] (qUp I (o + 9) a1.toNatClampNeg (I (o + 6) 2)) L R) : wkB l G (d + 1) n_X2_open Q 9 [.ref (o + 6), .int a1] [] I L R :=
  bb_aload_n (n := 0) (i := 0) (zd (i := .aload_n 0) (n := 1) (by decide +kernel)) rfl rfl <|
  bb_getr (k := (o + 6)) (ci := 2) (j := 3) (idx := 22) (a := (o + 9)) (zd (i := .getfield 22) (n := 3) (by decide +kernel)) (by rcases ho with rfl | rfl <;> decide +kernel) (by rcases ho with rfl | rfl <;> decide +kernel) (by decide +kernel) (by decide +kernel) rfl g240 h1 <|
  bb_iload_n (n := 1) (i := 1) (zd (i := .iload_n 1) (n := 1) (by decide +kernel)) rfl rfl <|
  bb_aload_n (n := 0) (i := 0) (zd (i := .aload_n 0) (n := 1) (by decide +kernel)) rfl rfl <|
  bb_geti (k := (o + 6)) (ci := 2) (j := 2) (idx := 18) (zd (i := .getfield 18) (n := 3) (by decide +kernel)) (by rcases ho with rfl | rfl <;> decide +kernel) (by rcases ho with rfl | rfl <;> decide +kernel) (by decide +kernel) (by decide +kernel) rfl g239 <|
  bb_lift (fun _ => q_iast (k := (o + 9)) (zd (i := .iastore) (n := 1) (by decide +kernel)) (by rcases ho with rfl | rfl <;> decide +kernel) (by rcases ho with rfl | rfl <;> decide +kernel) (by have hz := h2; rcases ho with rfl | rfl <;> exact hz)) <|
  k
theorem w_X2_open_19 {Q : qQ} {I : qMI} {L : qML} {R : qMR} {o : Nat} (ho : o = 9 ∨ o = 259) {a1 : Int32} (hQ : Q none 336 I L R) : wkB l G (d + 1) n_X2_open Q 19 [.ref (o + 6), .int a1] [] I L R :=
  (fun lv hl => q_vret (zd (i := .return_) (n := 1) (by decide +kernel)) rfl (Nat.le_refl _) (Nat.le_refl _) hQ)
theorem w_X2_emit_0 {Q : qQ} {I : qMI} {L : qML} {R : qMR} {o : Nat} (ho : o = 9 ∨ o = 259) {a1 : Int32} {a2 : Int32} (kt : 420 ≤ (I (o + 6) 2) → wkB l G (d + 1) n_X2_emit Q 40 [.ref (o + 6), .int a1, .int a2] [] I L R) (kf : ¬ 420 ≤ (I (o + 6) 2) → wkB l G (d + 1) n_X2_emit Q 10 [.ref (o + 6), .int a1, .int a2] [] I L R) : wkB l G (d + 1) n_X2_emit Q 0 [.ref (o + 6), .int a1, .int a2] [] I L R :=
  bb_aload_n (n := 0) (i := 0) (zd (i := .aload_n 0) (n := 1) (by decide +kernel)) rfl rfl <|
  bb_geti (k := (o + 6)) (ci := 2) (j := 2) (idx := 18) (zd (i := .getfield 18) (n := 3) (by decide +kernel)) (by rcases ho with rfl | rfl <;> decide +kernel) (by rcases ho with rfl | rfl <;> decide +kernel) (by decide +kernel) (by decide +kernel) rfl g239 <|
  bb_lift (fun _ => q_sipush (n := 420) (zd (i := .sipush (420)) (n := 3) (by decide +kernel)) rfl) <|
  (fun lv hl => q_icmp_ge (off := 33) (tgt := 40) (zd (i := .if_icmp .ge (33)) (n := 3) (by decide +kernel)) (by decide) (fun h => (kt h) lv hl) (fun h => (kf h) lv hl))
theorem w_X2_emit_10 {Q : qQ} {I : qMI} {L : qML} {R : qMR} {o : Nat} (ho : o = 9 ∨ o = 259) {a1 : Int32} {a2 : Int32} (h1 : R (o + 6) 0 = some (o + 7)) (h2 : vp_in (I (o + 6) 2) 420) (h3 : R (o + 6) 1 = some (o + 8)) (h4 : vp_in ((qUp I (o + 7) (I (o + 6) 2).toNatClampNeg a1) (o + 6) 2) 420) (k : wkB l G (d + 1) n_X2_emit Q 40 [.ref (o + 6), .int a1, .int a2] [] (qUp (qUp (qUp I (o + 7) (I (o + 6) 2).toNatClampNeg a1) (o + 8) ((qUp I (o + 7) (I (o + 6) 2).toNatClampNeg a1) (o + 6) 2).toNatClampNeg a2) (o + 6) 2 (((qUp (qUp I (o + 7) (I (o + 6) 2).toNatClampNeg a1) (o + 8) ((qUp I (o + 7) (I (o + 6) 2).toNatClampNeg a1) (o + 6) 2).toNatClampNeg a2) (o + 6) 2) + 1)) L R) : wkB l G (d + 1) n_X2_emit Q 10 [.ref (o + 6), .int a1, .int a2] [] I L R :=
  bb_aload_n (n := 0) (i := 0) (zd (i := .aload_n 0) (n := 1) (by decide +kernel)) rfl rfl <|
  bb_getr (k := (o + 6)) (ci := 2) (j := 0) (idx := 11) (a := (o + 7)) (zd (i := .getfield 11) (n := 3) (by decide +kernel)) (by rcases ho with rfl | rfl <;> decide +kernel) (by rcases ho with rfl | rfl <;> decide +kernel) (by decide +kernel) (by decide +kernel) rfl g237 h1 <|
  bb_aload_n (n := 0) (i := 0) (zd (i := .aload_n 0) (n := 1) (by decide +kernel)) rfl rfl <|
  bb_geti (k := (o + 6)) (ci := 2) (j := 2) (idx := 18) (zd (i := .getfield 18) (n := 3) (by decide +kernel)) (by rcases ho with rfl | rfl <;> decide +kernel) (by rcases ho with rfl | rfl <;> decide +kernel) (by decide +kernel) (by decide +kernel) rfl g239 <|
  bb_iload_n (n := 1) (i := 1) (zd (i := .iload_n 1) (n := 1) (by decide +kernel)) rfl rfl <|
  bb_lift (fun _ => q_iast (k := (o + 7)) (zd (i := .iastore) (n := 1) (by decide +kernel)) (by rcases ho with rfl | rfl <;> decide +kernel) (by rcases ho with rfl | rfl <;> decide +kernel) (by have hz := h2; rcases ho with rfl | rfl <;> exact hz)) <|
  bb_aload_n (n := 0) (i := 0) (zd (i := .aload_n 0) (n := 1) (by decide +kernel)) rfl rfl <|
  bb_getr (k := (o + 6)) (ci := 2) (j := 1) (idx := 15) (a := (o + 8)) (zd (i := .getfield 15) (n := 3) (by decide +kernel)) (by rcases ho with rfl | rfl <;> decide +kernel) (by rcases ho with rfl | rfl <;> decide +kernel) (by decide +kernel) (by decide +kernel) rfl g238 h3 <|
  bb_aload_n (n := 0) (i := 0) (zd (i := .aload_n 0) (n := 1) (by decide +kernel)) rfl rfl <|
  bb_geti (k := (o + 6)) (ci := 2) (j := 2) (idx := 18) (zd (i := .getfield 18) (n := 3) (by decide +kernel)) (by rcases ho with rfl | rfl <;> decide +kernel) (by rcases ho with rfl | rfl <;> decide +kernel) (by decide +kernel) (by decide +kernel) rfl g239 <|
  bb_iload_n (n := 2) (i := 2) (zd (i := .iload_n 2) (n := 1) (by decide +kernel)) rfl rfl <|
  bb_lift (fun _ => q_iast (k := (o + 8)) (zd (i := .iastore) (n := 1) (by decide +kernel)) (by rcases ho with rfl | rfl <;> decide +kernel) (by rcases ho with rfl | rfl <;> decide +kernel) (by have hz := h4; rcases ho with rfl | rfl <;> exact hz)) <|
  bb_aload_n (n := 0) (i := 0) (zd (i := .aload_n 0) (n := 1) (by decide +kernel)) rfl rfl <|
  bb_lift (fun _ => q_dup (zd (i := .dup) (n := 1) (by decide +kernel)) rfl) <|
  bb_geti (k := (o + 6)) (ci := 2) (j := 2) (idx := 18) (zd (i := .getfield 18) (n := 3) (by decide +kernel)) (by rcases ho with rfl | rfl <;> decide +kernel) (by rcases ho with rfl | rfl <;> decide +kernel) (by decide +kernel) (by decide +kernel) rfl g239 <|
  bb_lift (fun _ => q_iconst (n := 1) (zd (i := .iconst (1)) (n := 1) (by decide +kernel)) rfl) <|
  bb_lift (fun _ => q_iadd (zd (i := .iadd) (n := 1) (by decide +kernel))) <|
  bb_puti (k := (o + 6)) (ci := 2) (j := 2) (idx := 18) (zd (i := .putfield 18) (n := 3) (by decide +kernel)) (by rcases ho with rfl | rfl <;> decide +kernel) (by rcases ho with rfl | rfl <;> decide +kernel) (by decide +kernel) (by decide +kernel) g239 rfl rfl <|
  k
theorem w_X2_emit_40 {Q : qQ} {I : qMI} {L : qML} {R : qMR} {o : Nat} (ho : o = 9 ∨ o = 259) {a1 : Int32} {a2 : Int32} (hQ : Q (some (.int ((I (o + 6) 2) - 1))) 336 I L R) : wkB l G (d + 1) n_X2_emit Q 40 [.ref (o + 6), .int a1, .int a2] [] I L R :=
  bb_aload_n (n := 0) (i := 0) (zd (i := .aload_n 0) (n := 1) (by decide +kernel)) rfl rfl <|
  bb_geti (k := (o + 6)) (ci := 2) (j := 2) (idx := 18) (zd (i := .getfield 18) (n := 3) (by decide +kernel)) (by rcases ho with rfl | rfl <;> decide +kernel) (by rcases ho with rfl | rfl <;> decide +kernel) (by decide +kernel) (by decide +kernel) rfl g239 <|
  bb_lift (fun _ => q_iconst (n := 1) (zd (i := .iconst (1)) (n := 1) (by decide +kernel)) rfl) <|
  bb_lift (fun _ => q_isub (zd (i := .isub) (n := 1) (by decide +kernel))) <|
  (fun lv hl => q_iret (zd (i := .ireturn) (n := 1) (by decide +kernel)) rfl rfl (Nat.le_refl _) (Nat.le_refl _) hQ)
theorem w_X2_leadOnFrom_0 {Q : qQ} {I : qMI} {L : qML} {R : qMR} {o : Nat} (ho : o = 9 ∨ o = 259) {a1 : Int32} (kt : a1 < 0 → wkB l G (d + 1) n_X2_leadOnFrom Q 22 [.ref (o + 6), .int a1] [] I L R) (kf : ¬ a1 < 0 → wkB l G (d + 1) n_X2_leadOnFrom Q 4 [.ref (o + 6), .int a1] [] I L R) : wkB l G (d + 1) n_X2_leadOnFrom Q 0 [.ref (o + 6), .int a1] [] I L R :=
  bb_iload_n (n := 1) (i := 1) (zd (i := .iload_n 1) (n := 1) (by decide +kernel)) rfl rfl <|
  (fun lv hl => q_if_lt (off := 21) (tgt := 22) (zd (i := .ifCond .lt (21)) (n := 3) (by decide +kernel)) (by decide) (fun h => (kt h) lv hl) (fun h => (kf h) lv hl))
theorem w_X2_leadOnFrom_4 {Q : qQ} {I : qMI} {L : qML} {R : qMR} {o : Nat} (ho : o = 9 ∨ o = 259) {a1 : Int32} (kt : (I (o + 6) 2) ≤ a1 → wkB l G (d + 1) n_X2_leadOnFrom Q 22 [.ref (o + 6), .int a1] [] I L R) (kf : ¬ (I (o + 6) 2) ≤ a1 → wkB l G (d + 1) n_X2_leadOnFrom Q 12 [.ref (o + 6), .int a1] [] I L R) : wkB l G (d + 1) n_X2_leadOnFrom Q 4 [.ref (o + 6), .int a1] [] I L R :=
  bb_iload_n (n := 1) (i := 1) (zd (i := .iload_n 1) (n := 1) (by decide +kernel)) rfl rfl <|
  bb_aload_n (n := 0) (i := 0) (zd (i := .aload_n 0) (n := 1) (by decide +kernel)) rfl rfl <|
  bb_geti (k := (o + 6)) (ci := 2) (j := 2) (idx := 18) (zd (i := .getfield 18) (n := 3) (by decide +kernel)) (by rcases ho with rfl | rfl <;> decide +kernel) (by rcases ho with rfl | rfl <;> decide +kernel) (by decide +kernel) (by decide +kernel) rfl g239 <|
  (fun lv hl => q_icmp_ge (off := 13) (tgt := 22) (zd (i := .if_icmp .ge (13)) (n := 3) (by decide +kernel)) (by decide) (fun h => (kt h) lv hl) (fun h => (kf h) lv hl))
theorem w_X2_leadOnFrom_12 {Q : qQ} {I : qMI} {L : qML} {R : qMR} {o : Nat} (ho : o = 9 ∨ o = 259) {a1 : Int32} (h1 : R (o + 6) 1 = some (o + 8)) (h2 : vp_in a1 420) (k : wkB l G (d + 1) n_X2_leadOnFrom Q 22 [.ref (o + 6), .int a1] [] (qUp I (o + 8) a1.toNatClampNeg (I (o + 6) 2)) L R) : wkB l G (d + 1) n_X2_leadOnFrom Q 12 [.ref (o + 6), .int a1] [] I L R :=
  bb_aload_n (n := 0) (i := 0) (zd (i := .aload_n 0) (n := 1) (by decide +kernel)) rfl rfl <|
  bb_getr (k := (o + 6)) (ci := 2) (j := 1) (idx := 15) (a := (o + 8)) (zd (i := .getfield 15) (n := 3) (by decide +kernel)) (by rcases ho with rfl | rfl <;> decide +kernel) (by rcases ho with rfl | rfl <;> decide +kernel) (by decide +kernel) (by decide +kernel) rfl g238 h1 <|
  bb_iload_n (n := 1) (i := 1) (zd (i := .iload_n 1) (n := 1) (by decide +kernel)) rfl rfl <|
  bb_aload_n (n := 0) (i := 0) (zd (i := .aload_n 0) (n := 1) (by decide +kernel)) rfl rfl <|
  bb_geti (k := (o + 6)) (ci := 2) (j := 2) (idx := 18) (zd (i := .getfield 18) (n := 3) (by decide +kernel)) (by rcases ho with rfl | rfl <;> decide +kernel) (by rcases ho with rfl | rfl <;> decide +kernel) (by decide +kernel) (by decide +kernel) rfl g239 <|
  bb_lift (fun _ => q_iast (k := (o + 8)) (zd (i := .iastore) (n := 1) (by decide +kernel)) (by rcases ho with rfl | rfl <;> decide +kernel) (by rcases ho with rfl | rfl <;> decide +kernel) (by have hz := h2; rcases ho with rfl | rfl <;> exact hz)) <|
  k
theorem w_X2_leadOnFrom_22 {Q : qQ} {I : qMI} {L : qML} {R : qMR} {o : Nat} (ho : o = 9 ∨ o = 259) {a1 : Int32} (hQ : Q none 336 I L R) : wkB l G (d + 1) n_X2_leadOnFrom Q 22 [.ref (o + 6), .int a1] [] I L R :=
  (fun lv hl => q_vret (zd (i := .return_) (n := 1) (by decide +kernel)) rfl (Nat.le_refl _) (Nat.le_refl _) hQ)
theorem w_X2_clear_0 {Q : qQ} {I : qMI} {L : qML} {R : qMR} {o : Nat} (ho : o = 9 ∨ o = 259)  {P : qMI → qML → qMR → Prop} (hc : wkCv l G d n_X2_openWithVar [.ref (o + 6), .int 0, .int 0] (qUp I (o + 6) 2 0) L R P) (kk : ∀ I' L' R', P I' L' R' → wkB l G (d + 1) n_X2_clear Q 11 [.ref (o + 6)] [] I' L' R') : wkB l G (d + 1) n_X2_clear Q 0 [.ref (o + 6)] [] I L R :=
  bb_aload_n (n := 0) (i := 0) (zd (i := .aload_n 0) (n := 1) (by decide +kernel)) rfl rfl <|
  bb_lift (fun _ => q_iconst (n := 0) (zd (i := .iconst (0)) (n := 1) (by decide +kernel)) rfl) <|
  bb_puti (k := (o + 6)) (ci := 2) (j := 2) (idx := 18) (zd (i := .putfield 18) (n := 3) (by decide +kernel)) (by rcases ho with rfl | rfl <;> decide +kernel) (by rcases ho with rfl | rfl <;> decide +kernel) (by decide +kernel) (by decide +kernel) g239 rfl rfl <|
  bb_aload_n (n := 0) (i := 0) (zd (i := .aload_n 0) (n := 1) (by decide +kernel)) rfl rfl <|
  bb_lift (fun _ => q_iconst (n := 0) (zd (i := .iconst (0)) (n := 1) (by decide +kernel)) rfl) <|
  bb_lift (fun _ => q_iconst (n := 0) (zd (i := .iconst (0)) (n := 1) (by decide +kernel)) rfl) <|
  bb_callV (idx := 31) (k := (o + 6)) (ci := 2) (N := n_X2_openWithVar) (As := [.int 0, .int 0]) (st := []) (zd (i := .invokevirtual 31) (n := 3) (by decide +kernel)) to_X2_openWithVar g264 g266 g0 (Nat.le_of_ble_eq_true rfl) (by rcases ho with rfl | rfl <;> decide +kernel) (by rcases ho with rfl | rfl <;> decide +kernel) (by decide +kernel) rfl rfl rfl hc (fun r I' L' R' hq => by obtain ⟨rfl, hp⟩ := hq; exact kk I' L' R' hp)
theorem w_X2_clear_11 {Q : qQ} {I : qMI} {L : qML} {R : qMR} {o : Nat} (ho : o = 9 ∨ o = 259)  {P : qMI → qML → qMR → Prop} (hc : wkCv l G d n_X2_open [.ref (o + 6), .int 1] I L R P) (kk : ∀ I' L' R', P I' L' R' → wkB l G (d + 1) n_X2_clear Q 16 [.ref (o + 6)] [] I' L' R') : wkB l G (d + 1) n_X2_clear Q 11 [.ref (o + 6)] [] I L R :=
  bb_aload_n (n := 0) (i := 0) (zd (i := .aload_n 0) (n := 1) (by decide +kernel)) rfl rfl <|
  bb_lift (fun _ => q_iconst (n := 1) (zd (i := .iconst (1)) (n := 1) (by decide +kernel)) rfl) <|
  bb_callV (idx := 35) (k := (o + 6)) (ci := 2) (N := n_X2_open) (As := [.int 1]) (st := []) (zd (i := .invokevirtual 35) (n := 3) (by decide +kernel)) to_X2_open g268 g269 g270 (Nat.le_of_ble_eq_true rfl) (by rcases ho with rfl | rfl <;> decide +kernel) (by rcases ho with rfl | rfl <;> decide +kernel) (by decide +kernel) rfl rfl rfl hc (fun r I' L' R' hq => by obtain ⟨rfl, hp⟩ := hq; exact kk I' L' R' hp)
theorem w_X2_clear_16 {Q : qQ} {I : qMI} {L : qML} {R : qMR} {o : Nat} (ho : o = 9 ∨ o = 259)  {P : Int32 → qMI → qML → qMR → Prop} (hc : wkCi l G d n_X2_emit [.ref (o + 6), .int 1, .int 2] I L R P) (kk : ∀ y I' L' R', P y I' L' R' → wkB l G (d + 1) n_X2_clear Q 22 [.ref (o + 6)] [.int y] I' L' R') : wkB l G (d + 1) n_X2_clear Q 16 [.ref (o + 6)] [] I L R :=
  bb_aload_n (n := 0) (i := 0) (zd (i := .aload_n 0) (n := 1) (by decide +kernel)) rfl rfl <|
  bb_lift (fun _ => q_iconst (n := 1) (zd (i := .iconst (1)) (n := 1) (by decide +kernel)) rfl) <|
  bb_lift (fun _ => q_iconst (n := 2) (zd (i := .iconst (2)) (n := 1) (by decide +kernel)) rfl) <|
  bb_callV (idx := 39) (k := (o + 6)) (ci := 2) (N := n_X2_emit) (As := [.int 1, .int 2]) (st := []) (zd (i := .invokevirtual 39) (n := 3) (by decide +kernel)) to_X2_emit g272 g273 g274 (Nat.le_of_ble_eq_true rfl) (by rcases ho with rfl | rfl <;> decide +kernel) (by rcases ho with rfl | rfl <;> decide +kernel) (by decide +kernel) rfl rfl rfl hc (fun r I' L' R' hq => by obtain ⟨y, rfl, hp⟩ := hq; exact kk y I' L' R' hp)
theorem w_X2_clear_22 {Q : qQ} {I : qMI} {L : qML} {R : qMR} {o : Nat} (ho : o = 9 ∨ o = 259) {s0 : Int32} {P : Int32 → qMI → qML → qMR → Prop} (hc : wkCi l G d n_X2_emit [.ref (o + 6), .int 1, .int 3] I L R P) (kk : ∀ y I' L' R', P y I' L' R' → wkB l G (d + 1) n_X2_clear Q 29 [.ref (o + 6)] [.int y] I' L' R') : wkB l G (d + 1) n_X2_clear Q 22 [.ref (o + 6)] [.int s0] I L R :=
  bb_lift (fun _ => q_pop (zd (i := .pop) (n := 1) (by decide +kernel)) rfl) <|
  bb_aload_n (n := 0) (i := 0) (zd (i := .aload_n 0) (n := 1) (by decide +kernel)) rfl rfl <|
  bb_lift (fun _ => q_iconst (n := 1) (zd (i := .iconst (1)) (n := 1) (by decide +kernel)) rfl) <|
  bb_lift (fun _ => q_iconst (n := 3) (zd (i := .iconst (3)) (n := 1) (by decide +kernel)) rfl) <|
  bb_callV (idx := 39) (k := (o + 6)) (ci := 2) (N := n_X2_emit) (As := [.int 1, .int 3]) (st := []) (zd (i := .invokevirtual 39) (n := 3) (by decide +kernel)) to_X2_emit g272 g273 g274 (Nat.le_of_ble_eq_true rfl) (by rcases ho with rfl | rfl <;> decide +kernel) (by rcases ho with rfl | rfl <;> decide +kernel) (by decide +kernel) rfl rfl rfl hc (fun r I' L' R' hq => by obtain ⟨y, rfl, hp⟩ := hq; exact kk y I' L' R' hp)
theorem w_X2_clear_29 {Q : qQ} {I : qMI} {L : qML} {R : qMR} {o : Nat} (ho : o = 9 ∨ o = 259) {s0 : Int32} {P : Int32 → qMI → qML → qMR → Prop} (hc : wkCi l G d n_X2_emit [.ref (o + 6), .int 3, .int 0] I L R P) (kk : ∀ y I' L' R', P y I' L' R' → wkB l G (d + 1) n_X2_clear Q 36 [.ref (o + 6)] [.int y] I' L' R') : wkB l G (d + 1) n_X2_clear Q 29 [.ref (o + 6)] [.int s0] I L R :=
  bb_lift (fun _ => q_pop (zd (i := .pop) (n := 1) (by decide +kernel)) rfl) <|
  bb_aload_n (n := 0) (i := 0) (zd (i := .aload_n 0) (n := 1) (by decide +kernel)) rfl rfl <|
  bb_lift (fun _ => q_iconst (n := 3) (zd (i := .iconst (3)) (n := 1) (by decide +kernel)) rfl) <|
  bb_lift (fun _ => q_iconst (n := 0) (zd (i := .iconst (0)) (n := 1) (by decide +kernel)) rfl) <|
  bb_callV (idx := 39) (k := (o + 6)) (ci := 2) (N := n_X2_emit) (As := [.int 3, .int 0]) (st := []) (zd (i := .invokevirtual 39) (n := 3) (by decide +kernel)) to_X2_emit g272 g273 g274 (Nat.le_of_ble_eq_true rfl) (by rcases ho with rfl | rfl <;> decide +kernel) (by rcases ho with rfl | rfl <;> decide +kernel) (by decide +kernel) rfl rfl rfl hc (fun r I' L' R' hq => by obtain ⟨y, rfl, hp⟩ := hq; exact kk y I' L' R' hp)
theorem w_X2_clear_36 {Q : qQ} {I : qMI} {L : qML} {R : qMR} {o : Nat} (ho : o = 9 ∨ o = 259) {s0 : Int32} {P : Int32 → qMI → qML → qMR → Prop} (hc : wkCi l G d n_X2_emit [.ref (o + 6), .int 7, .int 0] I L R P) (kk : ∀ y I' L' R', P y I' L' R' → wkB l G (d + 1) n_X2_clear Q 44 [.ref (o + 6)] [.int y] I' L' R') : wkB l G (d + 1) n_X2_clear Q 36 [.ref (o + 6)] [.int s0] I L R :=
  bb_lift (fun _ => q_pop (zd (i := .pop) (n := 1) (by decide +kernel)) rfl) <|
  bb_aload_n (n := 0) (i := 0) (zd (i := .aload_n 0) (n := 1) (by decide +kernel)) rfl rfl <|
  bb_lift (fun _ => q_bipush (n := 7) (zd (i := .bipush (7)) (n := 2) (by decide +kernel)) rfl) <|
  bb_lift (fun _ => q_iconst (n := 0) (zd (i := .iconst (0)) (n := 1) (by decide +kernel)) rfl) <|
  bb_callV (idx := 39) (k := (o + 6)) (ci := 2) (N := n_X2_emit) (As := [.int 7, .int 0]) (st := []) (zd (i := .invokevirtual 39) (n := 3) (by decide +kernel)) to_X2_emit g272 g273 g274 (Nat.le_of_ble_eq_true rfl) (by rcases ho with rfl | rfl <;> decide +kernel) (by rcases ho with rfl | rfl <;> decide +kernel) (by decide +kernel) rfl rfl rfl hc (fun r I' L' R' hq => by obtain ⟨y, rfl, hp⟩ := hq; exact kk y I' L' R' hp)
theorem w_X2_clear_44 {Q : qQ} {I : qMI} {L : qML} {R : qMR} {o : Nat} (ho : o = 9 ∨ o = 259) {s0 : Int32} {P : qMI → qML → qMR → Prop} (hc : wkCv l G d n_X2_open [.ref (o + 6), .int 2] I L R P) (kk : ∀ I' L' R', P I' L' R' → wkB l G (d + 1) n_X2_clear Q 50 [.ref (o + 6)] [] I' L' R') : wkB l G (d + 1) n_X2_clear Q 44 [.ref (o + 6)] [.int s0] I L R :=
  bb_lift (fun _ => q_pop (zd (i := .pop) (n := 1) (by decide +kernel)) rfl) <|
  bb_aload_n (n := 0) (i := 0) (zd (i := .aload_n 0) (n := 1) (by decide +kernel)) rfl rfl <|
  bb_lift (fun _ => q_iconst (n := 2) (zd (i := .iconst (2)) (n := 1) (by decide +kernel)) rfl) <|
  bb_callV (idx := 35) (k := (o + 6)) (ci := 2) (N := n_X2_open) (As := [.int 2]) (st := []) (zd (i := .invokevirtual 35) (n := 3) (by decide +kernel)) to_X2_open g268 g269 g270 (Nat.le_of_ble_eq_true rfl) (by rcases ho with rfl | rfl <;> decide +kernel) (by rcases ho with rfl | rfl <;> decide +kernel) (by decide +kernel) rfl rfl rfl hc (fun r I' L' R' hq => by obtain ⟨rfl, hp⟩ := hq; exact kk I' L' R' hp)
theorem w_X2_clear_50 {Q : qQ} {I : qMI} {L : qML} {R : qMR} {o : Nat} (ho : o = 9 ∨ o = 259)  {P : Int32 → qMI → qML → qMR → Prop} (hc : wkCi l G d n_X2_emit [.ref (o + 6), .int 0, .int 0] I L R P) (kk : ∀ y I' L' R', P y I' L' R' → wkB l G (d + 1) n_X2_clear Q 56 [.ref (o + 6)] [.int y] I' L' R') : wkB l G (d + 1) n_X2_clear Q 50 [.ref (o + 6)] [] I L R :=
  bb_aload_n (n := 0) (i := 0) (zd (i := .aload_n 0) (n := 1) (by decide +kernel)) rfl rfl <|
  bb_lift (fun _ => q_iconst (n := 0) (zd (i := .iconst (0)) (n := 1) (by decide +kernel)) rfl) <|
  bb_lift (fun _ => q_iconst (n := 0) (zd (i := .iconst (0)) (n := 1) (by decide +kernel)) rfl) <|
  bb_callV (idx := 39) (k := (o + 6)) (ci := 2) (N := n_X2_emit) (As := [.int 0, .int 0]) (st := []) (zd (i := .invokevirtual 39) (n := 3) (by decide +kernel)) to_X2_emit g272 g273 g274 (Nat.le_of_ble_eq_true rfl) (by rcases ho with rfl | rfl <;> decide +kernel) (by rcases ho with rfl | rfl <;> decide +kernel) (by decide +kernel) rfl rfl rfl hc (fun r I' L' R' hq => by obtain ⟨y, rfl, hp⟩ := hq; exact kk y I' L' R' hp)
theorem w_X2_clear_56 {Q : qQ} {I : qMI} {L : qML} {R : qMR} {o : Nat} (ho : o = 9 ∨ o = 259) {s0 : Int32} {P : Int32 → qMI → qML → qMR → Prop} (hc : wkCi l G d n_X2_emit [.ref (o + 6), .int 7, .int 0] I L R P) (kk : ∀ y I' L' R', P y I' L' R' → wkB l G (d + 1) n_X2_clear Q 64 [.ref (o + 6)] [.int y] I' L' R') : wkB l G (d + 1) n_X2_clear Q 56 [.ref (o + 6)] [.int s0] I L R :=
  bb_lift (fun _ => q_pop (zd (i := .pop) (n := 1) (by decide +kernel)) rfl) <|
  bb_aload_n (n := 0) (i := 0) (zd (i := .aload_n 0) (n := 1) (by decide +kernel)) rfl rfl <|
  bb_lift (fun _ => q_bipush (n := 7) (zd (i := .bipush (7)) (n := 2) (by decide +kernel)) rfl) <|
  bb_lift (fun _ => q_iconst (n := 0) (zd (i := .iconst (0)) (n := 1) (by decide +kernel)) rfl) <|
  bb_callV (idx := 39) (k := (o + 6)) (ci := 2) (N := n_X2_emit) (As := [.int 7, .int 0]) (st := []) (zd (i := .invokevirtual 39) (n := 3) (by decide +kernel)) to_X2_emit g272 g273 g274 (Nat.le_of_ble_eq_true rfl) (by rcases ho with rfl | rfl <;> decide +kernel) (by rcases ho with rfl | rfl <;> decide +kernel) (by decide +kernel) rfl rfl rfl hc (fun r I' L' R' hq => by obtain ⟨y, rfl, hp⟩ := hq; exact kk y I' L' R' hp)
theorem w_X2_clear_64 {Q : qQ} {I : qMI} {L : qML} {R : qMR} {o : Nat} (ho : o = 9 ∨ o = 259) {s0 : Int32} {P : qMI → qML → qMR → Prop} (hc : wkCv l G d n_X2_openWithVar [.ref (o + 6), .int 3, .int 4] I L R P) (kk : ∀ I' L' R', P I' L' R' → wkB l G (d + 1) n_X2_clear Q 71 [.ref (o + 6)] [] I' L' R') : wkB l G (d + 1) n_X2_clear Q 64 [.ref (o + 6)] [.int s0] I L R :=
  bb_lift (fun _ => q_pop (zd (i := .pop) (n := 1) (by decide +kernel)) rfl) <|
  bb_aload_n (n := 0) (i := 0) (zd (i := .aload_n 0) (n := 1) (by decide +kernel)) rfl rfl <|
  bb_lift (fun _ => q_iconst (n := 3) (zd (i := .iconst (3)) (n := 1) (by decide +kernel)) rfl) <|
  bb_lift (fun _ => q_iconst (n := 4) (zd (i := .iconst (4)) (n := 1) (by decide +kernel)) rfl) <|
  bb_callV (idx := 31) (k := (o + 6)) (ci := 2) (N := n_X2_openWithVar) (As := [.int 3, .int 4]) (st := []) (zd (i := .invokevirtual 31) (n := 3) (by decide +kernel)) to_X2_openWithVar g264 g266 g0 (Nat.le_of_ble_eq_true rfl) (by rcases ho with rfl | rfl <;> decide +kernel) (by rcases ho with rfl | rfl <;> decide +kernel) (by decide +kernel) rfl rfl rfl hc (fun r I' L' R' hq => by obtain ⟨rfl, hp⟩ := hq; exact kk I' L' R' hp)
theorem w_X2_clear_71 {Q : qQ} {I : qMI} {L : qML} {R : qMR} {o : Nat} (ho : o = 9 ∨ o = 259)  {P : qMI → qML → qMR → Prop} (hc : wkCv l G d n_X2_open [.ref (o + 6), .int 4] I L R P) (kk : ∀ I' L' R', P I' L' R' → wkB l G (d + 1) n_X2_clear Q 76 [.ref (o + 6)] [] I' L' R') : wkB l G (d + 1) n_X2_clear Q 71 [.ref (o + 6)] [] I L R :=
  bb_aload_n (n := 0) (i := 0) (zd (i := .aload_n 0) (n := 1) (by decide +kernel)) rfl rfl <|
  bb_lift (fun _ => q_iconst (n := 4) (zd (i := .iconst (4)) (n := 1) (by decide +kernel)) rfl) <|
  bb_callV (idx := 35) (k := (o + 6)) (ci := 2) (N := n_X2_open) (As := [.int 4]) (st := []) (zd (i := .invokevirtual 35) (n := 3) (by decide +kernel)) to_X2_open g268 g269 g270 (Nat.le_of_ble_eq_true rfl) (by rcases ho with rfl | rfl <;> decide +kernel) (by rcases ho with rfl | rfl <;> decide +kernel) (by decide +kernel) rfl rfl rfl hc (fun r I' L' R' hq => by obtain ⟨rfl, hp⟩ := hq; exact kk I' L' R' hp)
theorem w_X2_clear_76 {Q : qQ} {I : qMI} {L : qML} {R : qMR} {o : Nat} (ho : o = 9 ∨ o = 259)  {P : Int32 → qMI → qML → qMR → Prop} (hc : wkCi l G d n_X2_emit [.ref (o + 6), .int 0, .int 0] I L R P) (kk : ∀ y I' L' R', P y I' L' R' → wkB l G (d + 1) n_X2_clear Q 82 [.ref (o + 6)] [.int y] I' L' R') : wkB l G (d + 1) n_X2_clear Q 76 [.ref (o + 6)] [] I L R :=
  bb_aload_n (n := 0) (i := 0) (zd (i := .aload_n 0) (n := 1) (by decide +kernel)) rfl rfl <|
  bb_lift (fun _ => q_iconst (n := 0) (zd (i := .iconst (0)) (n := 1) (by decide +kernel)) rfl) <|
  bb_lift (fun _ => q_iconst (n := 0) (zd (i := .iconst (0)) (n := 1) (by decide +kernel)) rfl) <|
  bb_callV (idx := 39) (k := (o + 6)) (ci := 2) (N := n_X2_emit) (As := [.int 0, .int 0]) (st := []) (zd (i := .invokevirtual 39) (n := 3) (by decide +kernel)) to_X2_emit g272 g273 g274 (Nat.le_of_ble_eq_true rfl) (by rcases ho with rfl | rfl <;> decide +kernel) (by rcases ho with rfl | rfl <;> decide +kernel) (by decide +kernel) rfl rfl rfl hc (fun r I' L' R' hq => by obtain ⟨y, rfl, hp⟩ := hq; exact kk y I' L' R' hp)
theorem w_X2_clear_82 {Q : qQ} {I : qMI} {L : qML} {R : qMR} {o : Nat} (ho : o = 9 ∨ o = 259) {s0 : Int32} {P : Int32 → qMI → qML → qMR → Prop} (hc : wkCi l G d n_X2_emit [.ref (o + 6), .int 7, .int 0] I L R P) (kk : ∀ y I' L' R', P y I' L' R' → wkB l G (d + 1) n_X2_clear Q 90 [.ref (o + 6)] [.int y] I' L' R') : wkB l G (d + 1) n_X2_clear Q 82 [.ref (o + 6)] [.int s0] I L R :=
  bb_lift (fun _ => q_pop (zd (i := .pop) (n := 1) (by decide +kernel)) rfl) <|
  bb_aload_n (n := 0) (i := 0) (zd (i := .aload_n 0) (n := 1) (by decide +kernel)) rfl rfl <|
  bb_lift (fun _ => q_bipush (n := 7) (zd (i := .bipush (7)) (n := 2) (by decide +kernel)) rfl) <|
  bb_lift (fun _ => q_iconst (n := 0) (zd (i := .iconst (0)) (n := 1) (by decide +kernel)) rfl) <|
  bb_callV (idx := 39) (k := (o + 6)) (ci := 2) (N := n_X2_emit) (As := [.int 7, .int 0]) (st := []) (zd (i := .invokevirtual 39) (n := 3) (by decide +kernel)) to_X2_emit g272 g273 g274 (Nat.le_of_ble_eq_true rfl) (by rcases ho with rfl | rfl <;> decide +kernel) (by rcases ho with rfl | rfl <;> decide +kernel) (by decide +kernel) rfl rfl rfl hc (fun r I' L' R' hq => by obtain ⟨y, rfl, hp⟩ := hq; exact kk y I' L' R' hp)
theorem w_X2_clear_90 {Q : qQ} {I : qMI} {L : qML} {R : qMR} {o : Nat} (ho : o = 9 ∨ o = 259) {s0 : Int32} (hQ : Q none 336 I L R) : wkB l G (d + 1) n_X2_clear Q 90 [.ref (o + 6)] [.int s0] I L R :=
  bb_lift (fun _ => q_pop (zd (i := .pop) (n := 1) (by decide +kernel)) rfl) <|
  (fun lv hl => q_vret (zd (i := .return_) (n := 1) (by decide +kernel)) rfl (Nat.le_refl _) (Nat.le_refl _) hQ)
theorem w_X2_openWithVar_0 {Q : qQ} {I : qMI} {L : qML} {R : qMR} {o : Nat} (ho : o = 9 ∨ o = 259) {a1 : Int32} {a2 : Int32} {P : qMI → qML → qMR → Prop} (hc : wkCv l G d n_X2_open [.ref (o + 6), .int a1] I L R P) (kk : ∀ I' L' R', P I' L' R' → wkB l G (d + 1) n_X2_openWithVar Q 5 [.ref (o + 6), .int a1, .int a2] [] I' L' R') : wkB l G (d + 1) n_X2_openWithVar Q 0 [.ref (o + 6), .int a1, .int a2] [] I L R :=
  bb_aload_n (n := 0) (i := 0) (zd (i := .aload_n 0) (n := 1) (by decide +kernel)) rfl rfl <|
  bb_iload_n (n := 1) (i := 1) (zd (i := .iload_n 1) (n := 1) (by decide +kernel)) rfl rfl <|
  bb_callV (idx := 35) (k := (o + 6)) (ci := 2) (N := n_X2_open) (As := [.int a1]) (st := []) (zd (i := .invokevirtual 35) (n := 3) (by decide +kernel)) to_X2_open g268 g269 g270 (Nat.le_of_ble_eq_true rfl) (by rcases ho with rfl | rfl <;> decide +kernel) (by rcases ho with rfl | rfl <;> decide +kernel) (by decide +kernel) rfl rfl rfl hc (fun r I' L' R' hq => by obtain ⟨rfl, hp⟩ := hq; exact kk I' L' R' hp)
theorem w_X2_openWithVar_5 {Q : qQ} {I : qMI} {L : qML} {R : qMR} {o : Nat} (ho : o = 9 ∨ o = 259) {a1 : Int32} {a2 : Int32} {P : Int32 → qMI → qML → qMR → Prop} (hc : wkCi l G d n_X2_emit [.ref (o + 6), .int 1, .int a2] I L R P) (kk : ∀ y I' L' R', P y I' L' R' → wkB l G (d + 1) n_X2_openWithVar Q 11 [.ref (o + 6), .int a1, .int a2] [.int y] I' L' R') : wkB l G (d + 1) n_X2_openWithVar Q 5 [.ref (o + 6), .int a1, .int a2] [] I L R :=
  bb_aload_n (n := 0) (i := 0) (zd (i := .aload_n 0) (n := 1) (by decide +kernel)) rfl rfl <|
  bb_lift (fun _ => q_iconst (n := 1) (zd (i := .iconst (1)) (n := 1) (by decide +kernel)) rfl) <|
  bb_iload_n (n := 2) (i := 2) (zd (i := .iload_n 2) (n := 1) (by decide +kernel)) rfl rfl <|
  bb_callV (idx := 39) (k := (o + 6)) (ci := 2) (N := n_X2_emit) (As := [.int 1, .int a2]) (st := []) (zd (i := .invokevirtual 39) (n := 3) (by decide +kernel)) to_X2_emit g272 g273 g274 (Nat.le_of_ble_eq_true rfl) (by rcases ho with rfl | rfl <;> decide +kernel) (by rcases ho with rfl | rfl <;> decide +kernel) (by decide +kernel) rfl rfl rfl hc (fun r I' L' R' hq => by obtain ⟨y, rfl, hp⟩ := hq; exact kk y I' L' R' hp)
theorem w_X2_openWithVar_11 {Q : qQ} {I : qMI} {L : qML} {R : qMR} {o : Nat} (ho : o = 9 ∨ o = 259) {a1 : Int32} {a2 : Int32} {s0 : Int32} {P : Int32 → qMI → qML → qMR → Prop} (hc : wkCi l G d n_X2_emit [.ref (o + 6), .int 7, .int 0] I L R P) (kk : ∀ y I' L' R', P y I' L' R' → wkB l G (d + 1) n_X2_openWithVar Q 19 [.ref (o + 6), .int a1, .int a2] [.int y] I' L' R') : wkB l G (d + 1) n_X2_openWithVar Q 11 [.ref (o + 6), .int a1, .int a2] [.int s0] I L R :=
  bb_lift (fun _ => q_pop (zd (i := .pop) (n := 1) (by decide +kernel)) rfl) <|
  bb_aload_n (n := 0) (i := 0) (zd (i := .aload_n 0) (n := 1) (by decide +kernel)) rfl rfl <|
  bb_lift (fun _ => q_bipush (n := 7) (zd (i := .bipush (7)) (n := 2) (by decide +kernel)) rfl) <|
  bb_lift (fun _ => q_iconst (n := 0) (zd (i := .iconst (0)) (n := 1) (by decide +kernel)) rfl) <|
  bb_callV (idx := 39) (k := (o + 6)) (ci := 2) (N := n_X2_emit) (As := [.int 7, .int 0]) (st := []) (zd (i := .invokevirtual 39) (n := 3) (by decide +kernel)) to_X2_emit g272 g273 g274 (Nat.le_of_ble_eq_true rfl) (by rcases ho with rfl | rfl <;> decide +kernel) (by rcases ho with rfl | rfl <;> decide +kernel) (by decide +kernel) rfl rfl rfl hc (fun r I' L' R' hq => by obtain ⟨y, rfl, hp⟩ := hq; exact kk y I' L' R' hp)
theorem w_X2_openWithVar_19 {Q : qQ} {I : qMI} {L : qML} {R : qMR} {o : Nat} (ho : o = 9 ∨ o = 259) {a1 : Int32} {a2 : Int32} {s0 : Int32} (hQ : Q none 336 I L R) : wkB l G (d + 1) n_X2_openWithVar Q 19 [.ref (o + 6), .int a1, .int a2] [.int s0] I L R :=
  bb_lift (fun _ => q_pop (zd (i := .pop) (n := 1) (by decide +kernel)) rfl) <|
  (fun lv hl => q_vret (zd (i := .return_) (n := 1) (by decide +kernel)) rfl (Nat.le_refl _) (Nat.le_refl _) hQ)
end
