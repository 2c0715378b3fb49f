section
variable {l : Launch} {G : qG} {d : Nat}
def n_X9_is : qMn := (yX9_is, cX9_is, 2, (some Jvm.ClassFile.FieldType.boolean), 0, 0)
theorem to_X9_is : qTo n_X9_is 1 := ⟨g1365, g110, ⟨by decide, by decide, by decide +kernel⟩, by decide⟩
def n_X9_fail : qMn := (yX9_fail, cX9_fail, 2, none, 0, 0)
theorem to_X9_fail : qTo n_X9_fail 1 := ⟨g1377, g110, ⟨by decide, by decide, by decide +kernel⟩, by decide⟩
def n_X9_wrong : qMn := (yX9_wrong, cX9_wrong, 4, none, 0, 0)
theorem to_X9_wrong : qTo n_X9_wrong 2 := ⟨g1393, g110, ⟨by decide, by decide, by decide +kernel⟩, by decide⟩
def n_X9_goesOn : qMn := (yX9_goesOn, cX9_goesOn, 1, none, 0, 0)
theorem to_X9_goesOn : qTo n_X9_goesOn 0 := ⟨g1381, g110, ⟨by decide, by decide, by decide +kernel⟩, by decide⟩
def n_X9_must : qMn := (yX9_must, cX9_must, 2, none, 0, 0)
theorem to_X9_must : qTo n_X9_must 1 := ⟨g1389, g110, ⟨by decide, by decide, by decide +kernel⟩, by decide⟩
def n_X9_plain : qMn := (yX9_plain, cX9_plain, 3, none, 0, 0)
theorem to_X9_plain : qTo n_X9_plain 1 := ⟨g1113, g110, ⟨by decide, by decide, by decide +kernel⟩, by decide⟩
def n_X9_roomFor : qMn := (yX9_roomFor, cX9_roomFor, 3, none, 0, 0)
theorem to_X9_roomFor : qTo n_X9_roomFor 2 := ⟨g1373, g110, ⟨by decide, by decide, by decide +kernel⟩, by decide⟩
def n_X9_toldInt : qMn := (yX9_toldInt, cX9_toldInt, 4, (some Jvm.ClassFile.FieldType.int), 0, 0)
theorem to_X9_toldInt : qTo n_X9_toldInt 2 := ⟨g1405, g110, ⟨by decide, by decide, by decide +kernel⟩, by decide⟩
def n_X9_named : qMn := (yX9_named, cX9_named, 3, (some Jvm.ClassFile.FieldType.int), 0, 0)
theorem to_X9_named : qTo n_X9_named 0 := ⟨g1385, g110, ⟨by decide, by decide, by decide +kernel⟩, by decide⟩
def n_X9_ends : qMn := (yX9_ends, cX9_ends, 2, none, 0, 0)
theorem to_X9_ends : qTo n_X9_ends 1 := ⟨g1401, g110, ⟨by decide, by decide, by decide +kernel⟩, by decide⟩
def n_X9_bounded : qMn := (yX9_bounded, cX9_bounded, 4, (some Jvm.ClassFile.FieldType.int), 0, 0)
theorem to_X9_bounded : qTo n_X9_bounded 2 := ⟨g1397, g110, ⟨by decide, by decide, by decide +kernel⟩, by decide⟩
def n_X9_emit : qMn := (yX9_emit, cX9_emit, 3, none, 0, 0)
theorem to_X9_emit : qTo n_X9_emit 2 := ⟨g1421, g110, ⟨by decide, by decide, by decide +kernel⟩, by decide⟩
def n_X9_comesOut : qMn := (yX9_comesOut, cX9_comesOut, 3, none, 0, 0)
theorem to_X9_comesOut : qTo n_X9_comesOut 1 := ⟨g1425, g110, ⟨by decide, by decide, by decide +kernel⟩, by decide⟩
def n_X9_unit : qMn := (yX9_unit, cX9_unit, 1, none, 0, 0)
theorem to_X9_unit : qTo n_X9_unit 0 := ⟨g1417, g110, ⟨by decide, by decide, by decide +kernel⟩, by decide⟩
theorem w_X9_is_0 {Q : qQ} {I : qMI} {L : qML} {R : qMR} {a1 : Int32} (kt : ¬ (I 292 13) = 0 → wkB l G (d + 1) n_X9_is Q 24 [.ref 292, .int a1] [] I L R) (kf : (I 292 13) = 0 → wkB l G (d + 1) n_X9_is Q 7 [.ref 292, .int a1] [] I L R) : wkB l G (d + 1) n_X9_is Q 0 [.ref 292, .int a1] [] I L R :=
  bb_aload_n (n := 0) (i := 0) (zd (i := .aload_n 0) (n := 1) (by decide +kernel)) rfl rfl <|
  bb_geti (k := 292) (ci := 9) (j := 13) (idx := 200) (zd (i := .getfield 200) (n := 3) (by decide +kernel)) (by decide +kernel) (by decide +kernel) (by decide +kernel) (by decide +kernel) rfl g1141 <|
  (fun lv hl => q_if_ne (off := 20) (tgt := 24) (zd (i := .ifCond .ne (20)) (n := 3) (by decide +kernel)) (by decide) (fun h => (kt h) lv hl) (fun h => (kf h) lv hl))
theorem w_X9_is_7 {Q : qQ} {I : qMI} {L : qML} {R : qMR} (hR : wkR R) {a1 : Int32} (h1 : vp_in (I 292 11) 403) (kt : ¬ (I 295 (I 292 11).toNatClampNeg) = a1 → wkB l G (d + 1) n_X9_is Q 24 [.ref 292, .int a1] [] I L R) (kf : (I 295 (I 292 11).toNatClampNeg) = a1 → wkB l G (d + 1) n_X9_is Q 20 [.ref 292, .int a1] [] I L R) : wkB l G (d + 1) n_X9_is Q 7 [.ref 292, .int a1] [] I L R :=
  bb_aload_n (n := 0) (i := 0) (zd (i := .aload_n 0) (n := 1) (by decide +kernel)) rfl rfl <|
  bb_getr (k := 292) (ci := 9) (j := 5) (idx := 20) (a := 295) (zd (i := .getfield 20) (n := 3) (by decide +kernel)) (by decide +kernel) (by decide +kernel) (by decide +kernel) (by decide +kernel) rfl g1133 (hR 5 (by decide)) <|
  bb_aload_n (n := 0) (i := 0) (zd (i := .aload_n 0) (n := 1) (by decide +kernel)) rfl rfl <|
  bb_geti (k := 292) (ci := 9) (j := 11) (idx := 203) (zd (i := .getfield 203) (n := 3) (by decide +kernel)) (by decide +kernel) (by decide +kernel) (by decide +kernel) (by decide +kernel) rfl g1139 <|
  bb_lift (fun _ => q_iald (k := 295) (zd (i := .iaload) (n := 1) (by decide +kernel)) (by decide +kernel) (by decide +kernel) h1) <|
  bb_iload_n (n := 1) (i := 1) (zd (i := .iload_n 1) (n := 1) (by decide +kernel)) rfl rfl <|
  (fun lv hl => q_icmp_ne (off := 7) (tgt := 24) (zd (i := .if_icmp .ne (7)) (n := 3) (by decide +kernel)) (by decide) (fun h => (kt h) lv hl) (fun h => (kf h) lv hl))
theorem w_X9_is_20 {Q : qQ} {I : qMI} {L : qML} {R : qMR} {a1 : Int32} (k : wkB l G (d + 1) n_X9_is Q 25 [.ref 292, .int a1] [.int 1] I L R) : wkB l G (d + 1) n_X9_is Q 20 [.ref 292, .int a1] [] I L R :=
  bb_lift (fun _ => q_iconst (n := 1) (zd (i := .iconst (1)) (n := 1) (by decide +kernel)) rfl) <|
  bb_lift (fun _ => q_goto (off := 4) (tgt := 25) (zd (i := .goto (4)) (n := 3) (by decide +kernel)) (by decide)) k
theorem w_X9_is_24 {Q : qQ} {I : qMI} {L : qML} {R : qMR} {a1 : Int32} (k : wkB l G (d + 1) n_X9_is Q 25 [.ref 292, .int a1] [.int 0] I L R) : wkB l G (d + 1) n_X9_is Q 24 [.ref 292, .int a1] [] I L R :=
  bb_lift (fun _ => q_iconst (n := 0) (zd (i := .iconst (0)) (n := 1) (by decide +kernel)) rfl) <|
  k
theorem w_X9_is_25 {Q : qQ} {I : qMI} {L : qML} {R : qMR} {a1 : Int32} {s0 : Int32} (hQ : Q (some (.int s0)) 336 I L R) (h1 : s0 = 0 ∨ s0 = 1) : wkB l G (d + 1) n_X9_is Q 25 [.ref 292, .int a1] [.int s0] I L R :=
  (fun lv hl => q_iret (zd (i := .ireturn) (n := 1) (by decide +kernel)) rfl (by rcases h1 with e | e <;> rw [e] <;> rfl) (Nat.le_refl _) (Nat.le_refl _) hQ)
theorem w_X9_fail_0 {Q : qQ} {I : qMI} {L : qML} {R : qMR} {a1 : Int32} (kt : (I 292 13) ≤ 0 → wkB l G (d + 1) n_X9_fail Q 8 [.ref 292, .int a1] [] I L R) (kf : ¬ (I 292 13) ≤ 0 → wkB l G (d + 1) n_X9_fail Q 7 [.ref 292, .int a1] [] I L R) : wkB l G (d + 1) n_X9_fail Q 0 [.ref 292, .int a1] [] I L R :=
  bb_aload_n (n := 0) (i := 0) (zd (i := .aload_n 0) (n := 1) (by decide +kernel)) rfl rfl <|
  bb_geti (k := 292) (ci := 9) (j := 13) (idx := 200) (zd (i := .getfield 200) (n := 3) (by decide +kernel)) (by decide +kernel) (by decide +kernel) (by decide +kernel) (by decide +kernel) rfl g1141 <|
  (fun lv hl => q_if_le (off := 4) (tgt := 8) (zd (i := .ifCond .le (4)) (n := 3) (by decide +kernel)) (by decide) (fun h => (kt h) lv hl) (fun h => (kf h) lv hl))
theorem w_X9_fail_7 {Q : qQ} {I : qMI} {L : qML} {R : qMR} {a1 : Int32} (hQ : Q none 336 I L R) : wkB l G (d + 1) n_X9_fail Q 7 [.ref 292, .int a1] [] I L R :=
  (fun lv hl => q_vret (zd (i := .return_) (n := 1) (by decide +kernel)) rfl (Nat.le_refl _) (Nat.le_refl _) hQ)
theorem w_X9_fail_8 {Q : qQ} {I : qMI} {L : qML} {R : qMR} (hR : wkR R) {a1 : Int32} (h1 : vp_in ((qUp I 292 13 a1) 292 11) 403) (hQ : Q none 336 (qUp (qUp I 292 13 a1) 292 14 ((qUp I 292 13 a1) 296 ((qUp I 292 13 a1) 292 11).toNatClampNeg)) L R) : wkB l G (d + 1) n_X9_fail Q 8 [.ref 292, .int a1] [] I L R :=
  bb_aload_n (n := 0) (i := 0) (zd (i := .aload_n 0) (n := 1) (by decide +kernel)) rfl rfl <|
  bb_iload_n (n := 1) (i := 1) (zd (i := .iload_n 1) (n := 1) (by decide +kernel)) rfl rfl <|
  bb_puti (k := 292) (ci := 9) (j := 13) (idx := 200) (zd (i := .putfield 200) (n := 3) (by decide +kernel)) (by decide +kernel) (by decide +kernel) (by decide +kernel) (by decide +kernel) g1141 rfl rfl <|
  bb_aload_n (n := 0) (i := 0) (zd (i := .aload_n 0) (n := 1) (by decide +kernel)) rfl rfl <|
  bb_aload_n (n := 0) (i := 0) (zd (i := .aload_n 0) (n := 1) (by decide +kernel)) rfl rfl <|
  bb_getr (k := 292) (ci := 9) (j := 6) (idx := 24) (a := 296) (zd (i := .getfield 24) (n := 3) (by decide +kernel)) (by decide +kernel) (by decide +kernel) (by decide +kernel) (by decide +kernel) rfl g1134 (hR 6 (by decide)) <|
  bb_aload_n (n := 0) (i := 0) (zd (i := .aload_n 0) (n := 1) (by decide +kernel)) rfl rfl <|
  bb_geti (k := 292) (ci := 9) (j := 11) (idx := 203) (zd (i := .getfield 203) (n := 3) (by decide +kernel)) (by decide +kernel) (by decide +kernel) (by decide +kernel) (by decide +kernel) rfl g1139 <|
  bb_lift (fun _ => q_iald (k := 296) (zd (i := .iaload) (n := 1) (by decide +kernel)) (by decide +kernel) (by decide +kernel) h1) <|
  bb_puti (k := 292) (ci := 9) (j := 14) (idx := 206) (zd (i := .putfield 206) (n := 3) (by decide +kernel)) (by decide +kernel) (by decide +kernel) (by decide +kernel) (by decide +kernel) g1142 rfl rfl <|
  (fun lv hl => q_vret (zd (i := .return_) (n := 1) (by decide +kernel)) rfl (Nat.le_refl _) (Nat.le_refl _) hQ)
theorem w_X9_wrong_0 {Q : qQ} {I : qMI} {L : qML} {R : qMR} (hR : wkR R) {a1 : Int32} {a2 : Int32} (h1 : vp_in a2 403) (kt : 0 < (I 292 13) → wkB l G (d + 1) n_X9_wrong Q 45 [.ref 292, .int a1, .int a2, .int (I 296 a2.toNatClampNeg)] [] I L R) (kf : ¬ 0 < (I 292 13) → wkB l G (d + 1) n_X9_wrong Q 14 [.ref 292, .int a1, .int a2, .int (I 296 a2.toNatClampNeg)] [] I L R) : wkB l G (d + 1) n_X9_wrong Q 0 [.ref 292, .int a1, .int a2, wkU] [] I L R :=
  bb_aload_n (n := 0) (i := 0) (zd (i := .aload_n 0) (n := 1) (by decide +kernel)) rfl rfl <|
  bb_getr (k := 292) (ci := 9) (j := 6) (idx := 24) (a := 296) (zd (i := .getfield 24) (n := 3) (by decide +kernel)) (by decide +kernel) (by decide +kernel) (by decide +kernel) (by decide +kernel) rfl g1134 (hR 6 (by decide)) <|
  bb_iload_n (n := 2) (i := 2) (zd (i := .iload_n 2) (n := 1) (by decide +kernel)) rfl rfl <|
  bb_lift (fun _ => q_iald (k := 296) (zd (i := .iaload) (n := 1) (by decide +kernel)) (by decide +kernel) (by decide +kernel) h1) <|
  bb_istore_n (n := 3) (i := 3) (zd (i := .istore_n 3) (n := 1) (by decide +kernel)) rfl (by decide +kernel) (wkNl_i rfl) <|
  bb_aload_n (n := 0) (i := 0) (zd (i := .aload_n 0) (n := 1) (by decide +kernel)) rfl rfl <|
  bb_geti (k := 292) (ci := 9) (j := 13) (idx := 200) (zd (i := .getfield 200) (n := 3) (by decide +kernel)) (by decide +kernel) (by decide +kernel) (by decide +kernel) (by decide +kernel) rfl g1141 <|
  (fun lv hl => q_if_gt (off := 34) (tgt := 45) (zd (i := .ifCond .gt (34)) (n := 3) (by decide +kernel)) (by decide) (fun h => (kt h) lv hl) (fun h => (kf h) lv hl))
theorem w_X9_wrong_14 {Q : qQ} {I : qMI} {L : qML} {R : qMR} {a1 : Int32} {a2 : Int32} {a3 : Int32} (kt : (I 292 15) = 0 → wkB l G (d + 1) n_X9_wrong Q 46 [.ref 292, .int a1, .int a2, .int a3] [] I L R) (kf : ¬ (I 292 15) = 0 → wkB l G (d + 1) n_X9_wrong Q 21 [.ref 292, .int a1, .int a2, .int a3] [] I L R) : wkB l G (d + 1) n_X9_wrong Q 14 [.ref 292, .int a1, .int a2, .int a3] [] I L R :=
  bb_aload_n (n := 0) (i := 0) (zd (i := .aload_n 0) (n := 1) (by decide +kernel)) rfl rfl <|
  bb_geti (k := 292) (ci := 9) (j := 15) (idx := 209) (zd (i := .getfield 209) (n := 3) (by decide +kernel)) (by decide +kernel) (by decide +kernel) (by decide +kernel) (by decide +kernel) rfl g1143 <|
  (fun lv hl => q_if_eq (off := 28) (tgt := 46) (zd (i := .ifCond .eq (28)) (n := 3) (by decide +kernel)) (by decide) (fun h => (kt h) lv hl) (fun h => (kf h) lv hl))
theorem w_X9_wrong_21 {Q : qQ} {I : qMI} {L : qML} {R : qMR} {a1 : Int32} {a2 : Int32} {a3 : Int32} (kt : (I 292 16) < a3 → wkB l G (d + 1) n_X9_wrong Q 45 [.ref 292, .int a1, .int a2, .int a3] [] I L R) (kf : ¬ (I 292 16) < a3 → wkB l G (d + 1) n_X9_wrong Q 29 [.ref 292, .int a1, .int a2, .int a3] [] I L R) : wkB l G (d + 1) n_X9_wrong Q 21 [.ref 292, .int a1, .int a2, .int a3] [] I L R :=
  bb_iload_n (n := 3) (i := 3) (zd (i := .iload_n 3) (n := 1) (by decide +kernel)) rfl rfl <|
  bb_aload_n (n := 0) (i := 0) (zd (i := .aload_n 0) (n := 1) (by decide +kernel)) rfl rfl <|
  bb_geti (k := 292) (ci := 9) (j := 16) (idx := 212) (zd (i := .getfield 212) (n := 3) (by decide +kernel)) (by decide +kernel) (by decide +kernel) (by decide +kernel) (by decide +kernel) rfl g1144 <|
  (fun lv hl => q_icmp_gt (off := 19) (tgt := 45) (zd (i := .if_icmp .gt (19)) (n := 3) (by decide +kernel)) (by decide) (fun h => (kt h) lv hl) (fun h => (kf h) lv hl))
theorem w_X9_wrong_29 {Q : qQ} {I : qMI} {L : qML} {R : qMR} {a1 : Int32} {a2 : Int32} {a3 : Int32} (kt : ¬ a3 = (I 292 16) → wkB l G (d + 1) n_X9_wrong Q 46 [.ref 292, .int a1, .int a2, .int a3] [] I L R) (kf : a3 = (I 292 16) → wkB l G (d + 1) n_X9_wrong Q 37 [.ref 292, .int a1, .int a2, .int a3] [] I L R) : wkB l G (d + 1) n_X9_wrong Q 29 [.ref 292, .int a1, .int a2, .int a3] [] I L R :=
  bb_iload_n (n := 3) (i := 3) (zd (i := .iload_n 3) (n := 1) (by decide +kernel)) rfl rfl <|
  bb_aload_n (n := 0) (i := 0) (zd (i := .aload_n 0) (n := 1) (by decide +kernel)) rfl rfl <|
  bb_geti (k := 292) (ci := 9) (j := 16) (idx := 212) (zd (i := .getfield 212) (n := 3) (by decide +kernel)) (by decide +kernel) (by decide +kernel) (by decide +kernel) (by decide +kernel) rfl g1144 <|
  (fun lv hl => q_icmp_ne (off := 12) (tgt := 46) (zd (i := .if_icmp .ne (12)) (n := 3) (by decide +kernel)) (by decide) (fun h => (kt h) lv hl) (fun h => (kf h) lv hl))
theorem w_X9_wrong_37 {Q : qQ} {I : qMI} {L : qML} {R : qMR} {a1 : Int32} {a2 : Int32} {a3 : Int32} (kt : a1 < (I 292 15) → wkB l G (d + 1) n_X9_wrong Q 46 [.ref 292, .int a1, .int a2, .int a3] [] I L R) (kf : ¬ a1 < (I 292 15) → wkB l G (d + 1) n_X9_wrong Q 45 [.ref 292, .int a1, .int a2, .int a3] [] I L R) : wkB l G (d + 1) n_X9_wrong Q 37 [.ref 292, .int a1, .int a2, .int a3] [] I L R :=
  bb_iload_n (n := 1) (i := 1) (zd (i := .iload_n 1) (n := 1) (by decide +kernel)) rfl rfl <|
  bb_aload_n (n := 0) (i := 0) (zd (i := .aload_n 0) (n := 1) (by decide +kernel)) rfl rfl <|
  bb_geti (k := 292) (ci := 9) (j := 15) (idx := 209) (zd (i := .getfield 209) (n := 3) (by decide +kernel)) (by decide +kernel) (by decide +kernel) (by decide +kernel) (by decide +kernel) rfl g1143 <|
  (fun lv hl => q_icmp_lt (off := 4) (tgt := 46) (zd (i := .if_icmp .lt (4)) (n := 3) (by decide +kernel)) (by decide) (fun h => (kt h) lv hl) (fun h => (kf h) lv hl))
theorem w_X9_wrong_45 {Q : qQ} {I : qMI} {L : qML} {R : qMR} {a1 : Int32} {a2 : Int32} {a3 : Int32} (hQ : Q none 336 I L R) : wkB l G (d + 1) n_X9_wrong Q 45 [.ref 292, .int a1, .int a2, .int a3] [] I L R :=
  (fun lv hl => q_vret (zd (i := .return_) (n := 1) (by decide +kernel)) rfl (Nat.le_refl _) (Nat.le_refl _) hQ)
theorem w_X9_wrong_46 {Q : qQ} {I : qMI} {L : qML} {R : qMR} {a1 : Int32} {a2 : Int32} {a3 : Int32} (hQ : Q none 336 (qUp (qUp I 292 15 a1) 292 16 a3) L R) : wkB l G (d + 1) n_X9_wrong Q 46 [.ref 292, .int a1, .int a2, .int a3] [] I L R :=
  bb_aload_n (n := 0) (i := 0) (zd (i := .aload_n 0) (n := 1) (by decide +kernel)) rfl rfl <|
  bb_iload_n (n := 1) (i := 1) (zd (i := .iload_n 1) (n := 1) (by decide +kernel)) rfl rfl <|
  bb_puti (k := 292) (ci := 9) (j := 15) (idx := 209) (zd (i := .putfield 209) (n := 3) (by decide +kernel)) (by decide +kernel) (by decide +kernel) (by decide +kernel) (by decide +kernel) g1143 rfl rfl <|
  bb_aload_n (n := 0) (i := 0) (zd (i := .aload_n 0) (n := 1) (by decide +kernel)) rfl rfl <|
  bb_iload_n (n := 3) (i := 3) (zd (i := .iload_n 3) (n := 1) (by decide +kernel)) rfl rfl <|
  bb_puti (k := 292) (ci := 9) (j := 16) (idx := 212) (zd (i := .putfield 212) (n := 3) (by decide +kernel)) (by decide +kernel) (by decide +kernel) (by decide +kernel) (by decide +kernel) g1144 rfl rfl <|
  (fun lv hl => q_vret (zd (i := .return_) (n := 1) (by decide +kernel)) rfl (Nat.le_refl _) (Nat.le_refl _) hQ)
theorem w_X9_goesOn_0 {Q : qQ} {I : qMI} {L : qML} {R : qMR}  (kt : ¬ (I 292 11) = 400 → wkB l G (d + 1) n_X9_goesOn Q 18 [.ref 292] [] I L R) (kf : (I 292 11) = 400 → wkB l G (d + 1) n_X9_goesOn Q 10 [.ref 292] [] I L R) : wkB l G (d + 1) n_X9_goesOn Q 0 [.ref 292] [] I L R :=
  bb_aload_n (n := 0) (i := 0) (zd (i := .aload_n 0) (n := 1) (by decide +kernel)) rfl rfl <|
  bb_geti (k := 292) (ci := 9) (j := 11) (idx := 203) (zd (i := .getfield 203) (n := 3) (by decide +kernel)) (by decide +kernel) (by decide +kernel) (by decide +kernel) (by decide +kernel) rfl g1139 <|
  bb_lift (fun _ => q_sipush (n := 400) (zd (i := .sipush (400)) (n := 3) (by decide +kernel)) rfl) <|
  (fun lv hl => q_icmp_ne (off := 11) (tgt := 18) (zd (i := .if_icmp .ne (11)) (n := 3) (by decide +kernel)) (by decide) (fun h => (kt h) lv hl) (fun h => (kf h) lv hl))
theorem w_X9_goesOn_10 {Q : qQ} {I : qMI} {L : qML} {R : qMR}  {P : qMI → qML → Prop} (hc : wkV l G d n_X9_fail [.ref 292, .int 2] I L R P) (kk : ∀ I' L', P I' L' → wkB l G (d + 1) n_X9_goesOn Q 15 [.ref 292] [] I' L' R) : wkB l G (d + 1) n_X9_goesOn Q 10 [.ref 292] [] I L R :=
  bb_aload_n (n := 0) (i := 0) (zd (i := .aload_n 0) (n := 1) (by decide +kernel)) rfl rfl <|
  bb_lift (fun _ => q_iconst (n := 2) (zd (i := .iconst (2)) (n := 1) (by decide +kernel)) rfl) <|
  bb_callVV (idx := 215) (k := 292) (ci := 9) (N := n_X9_fail) (As := [.int 2]) (st := []) (zd (i := .invokevirtual 215) (n := 3) (by decide +kernel)) to_X9_fail g1374 g1376 g52 (Nat.le_of_ble_eq_true rfl) (by decide +kernel) (by decide +kernel) (by decide +kernel) rfl rfl rfl hc kk
theorem w_X9_goesOn_15 {Q : qQ} {I : qMI} {L : qML} {R : qMR}  (k : wkB l G (d + 1) n_X9_goesOn Q 28 [.ref 292] [] I L R) : wkB l G (d + 1) n_X9_goesOn Q 15 [.ref 292] [] I L R :=
  bb_lift (fun _ => q_goto (off := 13) (tgt := 28) (zd (i := .goto (13)) (n := 3) (by decide +kernel)) (by decide)) k
theorem w_X9_goesOn_18 {Q : qQ} {I : qMI} {L : qML} {R : qMR}  (k : wkB l G (d + 1) n_X9_goesOn Q 28 [.ref 292] [] (qUp I 292 11 ((I 292 11) + 1)) L R) : wkB l G (d + 1) n_X9_goesOn Q 18 [.ref 292] [] I L R :=
  bb_aload_n (n := 0) (i := 0) (zd (i := .aload_n 0) (n := 1) (by decide +kernel)) rfl rfl <|
  bb_lift (fun _ => q_dup (zd (i := .dup) (n := 1) (by decide +kernel)) rfl) <|
  bb_geti (k := 292) (ci := 9) (j := 11) (idx := 203) (zd (i := .getfield 203) (n := 3) (by decide +kernel)) (by decide +kernel) (by decide +kernel) (by decide +kernel) (by decide +kernel) rfl g1139 <|
  bb_lift (fun _ => q_iconst (n := 1) (zd (i := .iconst (1)) (n := 1) (by decide +kernel)) rfl) <|
  bb_lift (fun _ => q_iadd (zd (i := .iadd) (n := 1) (by decide +kernel))) <|
  bb_puti (k := 292) (ci := 9) (j := 11) (idx := 203) (zd (i := .putfield 203) (n := 3) (by decide +kernel)) (by decide +kernel) (by decide +kernel) (by decide +kernel) (by decide +kernel) g1139 rfl rfl <|
  k
theorem w_X9_goesOn_28 {Q : qQ} {I : qMI} {L : qML} {R : qMR}  (hQ : Q none 336 I L R) : wkB l G (d + 1) n_X9_goesOn Q 28 [.ref 292] [] I L R :=
  (fun lv hl => q_vret (zd (i := .return_) (n := 1) (by decide +kernel)) rfl (Nat.le_refl _) (Nat.le_refl _) hQ)
theorem w_X9_must_0 {Q : qQ} {I : qMI} {L : qML} {R : qMR} {a1 : Int32} {P : Int32 → qMI → qML → Prop} (hc : wkI l G d n_X9_is [.ref 292, .int a1] I L R P) (kk : ∀ y I' L', P y I' L' → wkB l G (d + 1) n_X9_must Q 5 [.ref 292, .int a1] [.int y] I' L' R) : wkB l G (d + 1) n_X9_must Q 0 [.ref 292, .int a1] [] I L R :=
  bb_aload_n (n := 0) (i := 0) (zd (i := .aload_n 0) (n := 1) (by decide +kernel)) rfl rfl <|
  bb_iload_n (n := 1) (i := 1) (zd (i := .iload_n 1) (n := 1) (by decide +kernel)) rfl rfl <|
  bb_callVI (idx := 218) (k := 292) (ci := 9) (N := n_X9_is) (As := [.int a1]) (st := []) (zd (i := .invokevirtual 218) (n := 3) (by decide +kernel)) to_X9_is g1362 g1364 g49 (Nat.le_of_ble_eq_true rfl) (by decide +kernel) (by decide +kernel) (by decide +kernel) rfl rfl rfl hc kk
theorem w_X9_must_5 {Q : qQ} {I : qMI} {L : qML} {R : qMR} {a1 : Int32} {s0 : Int32} (kt : s0 = 0 → wkB l G (d + 1) n_X9_must Q 15 [.ref 292, .int a1] [] I L R) (kf : ¬ s0 = 0 → wkB l G (d + 1) n_X9_must Q 8 [.ref 292, .int a1] [] I L R) : wkB l G (d + 1) n_X9_must Q 5 [.ref 292, .int a1] [.int s0] I L R :=
  (fun lv hl => q_if_eq (off := 10) (tgt := 15) (zd (i := .ifCond .eq (10)) (n := 3) (by decide +kernel)) (by decide) (fun h => (kt h) lv hl) (fun h => (kf h) lv hl))
theorem w_X9_must_8 {Q : qQ} {I : qMI} {L : qML} {R : qMR} {a1 : Int32} {P : qMI → qML → Prop} (hc : wkV l G d n_X9_goesOn [.ref 292] I L R P) (kk : ∀ I' L', P I' L' → wkB l G (d + 1) n_X9_must Q 12 [.ref 292, .int a1] [] I' L' R) : wkB l G (d + 1) n_X9_must Q 8 [.ref 292, .int a1] [] I L R :=
  bb_aload_n (n := 0) (i := 0) (zd (i := .aload_n 0) (n := 1) (by decide +kernel)) rfl rfl <|
  bb_callVV (idx := 221) (k := 292) (ci := 9) (N := n_X9_goesOn) (As := []) (st := []) (zd (i := .invokevirtual 221) (n := 3) (by decide +kernel)) to_X9_goesOn g1378 g1380 g53 (Nat.le_of_ble_eq_true rfl) (by decide +kernel) (by decide +kernel) (by decide +kernel) rfl rfl rfl hc kk
theorem w_X9_must_12 {Q : qQ} {I : qMI} {L : qML} {R : qMR} {a1 : Int32} (k : wkB l G (d + 1) n_X9_must Q 20 [.ref 292, .int a1] [] I L R) : wkB l G (d + 1) n_X9_must Q 12 [.ref 292, .int a1] [] I L R :=
  bb_lift (fun _ => q_goto (off := 8) (tgt := 20) (zd (i := .goto (8)) (n := 3) (by decide +kernel)) (by decide)) k
theorem w_X9_must_15 {Q : qQ} {I : qMI} {L : qML} {R : qMR} {a1 : Int32} {P : qMI → qML → Prop} (hc : wkV l G d n_X9_fail [.ref 292, .int 1] I L R P) (kk : ∀ I' L', P I' L' → wkB l G (d + 1) n_X9_must Q 20 [.ref 292, .int a1] [] I' L' R) : wkB l G (d + 1) n_X9_must Q 15 [.ref 292, .int a1] [] I L R :=
  bb_aload_n (n := 0) (i := 0) (zd (i := .aload_n 0) (n := 1) (by decide +kernel)) rfl rfl <|
  bb_lift (fun _ => q_iconst (n := 1) (zd (i := .iconst (1)) (n := 1) (by decide +kernel)) rfl) <|
  bb_callVV (idx := 215) (k := 292) (ci := 9) (N := n_X9_fail) (As := [.int 1]) (st := []) (zd (i := .invokevirtual 215) (n := 3) (by decide +kernel)) to_X9_fail g1374 g1376 g52 (Nat.le_of_ble_eq_true rfl) (by decide +kernel) (by decide +kernel) (by decide +kernel) rfl rfl rfl hc kk
theorem w_X9_must_20 {Q : qQ} {I : qMI} {L : qML} {R : qMR} {a1 : Int32} (hQ : Q none 336 I L R) : wkB l G (d + 1) n_X9_must Q 20 [.ref 292, .int a1] [] I L R :=
  (fun lv hl => q_vret (zd (i := .return_) (n := 1) (by decide +kernel)) rfl (Nat.le_refl _) (Nat.le_refl _) hQ)
theorem w_X9_plain_0 {Q : qQ} {I : qMI} {L : qML} {R : qMR} (hR : wkR R) {a1 : Int32} (h1 : vp_in a1 2) (h2 : vp_in a1 2) (h3 : vp_in a1 2) (h4 : vp_in a1 2) (h5 : vp_in a1 2) (h6 : vp_in a1 2) (k : wkB l G (d + 1) n_X9_plain Q 45 [.ref 292, .int a1, .int 0] [] (qUp (qUp (qUp (qUp (qUp (qUp I 301 a1.toNatClampNeg 0) 304 a1.toNatClampNeg 0) 307 a1.toNatClampNeg 24) 308 a1.toNatClampNeg 0) 309 a1.toNatClampNeg 0) 310 a1.toNatClampNeg 0) L R) : wkB l G (d + 1) n_X9_plain Q 0 [.ref 292, .int a1, wkU] [] I L R :=
  bb_aload_n (n := 0) (i := 0) (zd (i := .aload_n 0) (n := 1) (by decide +kernel)) rfl rfl <|
  bb_getr (k := 292) (ci := 9) (j := 22) (idx := 43) (a := 301) (zd (i := .getfield 43) (n := 3) (by decide +kernel)) (by decide +kernel) (by decide +kernel) (by decide +kernel) (by decide +kernel) rfl g1150 (hR 22 (by decide)) <|
  bb_iload_n (n := 1) (i := 1) (zd (i := .iload_n 1) (n := 1) (by decide +kernel)) rfl rfl <|
  bb_lift (fun _ => q_iconst (n := 0) (zd (i := .iconst (0)) (n := 1) (by decide +kernel)) rfl) <|
  bb_lift (fun _ => q_iast (k := 301) (zd (i := .iastore) (n := 1) (by decide +kernel)) (by decide +kernel) (by decide +kernel) h1) <|
  bb_aload_n (n := 0) (i := 0) (zd (i := .aload_n 0) (n := 1) (by decide +kernel)) rfl rfl <|
  bb_getr (k := 292) (ci := 9) (j := 25) (idx := 52) (a := 304) (zd (i := .getfield 52) (n := 3) (by decide +kernel)) (by decide +kernel) (by decide +kernel) (by decide +kernel) (by decide +kernel) rfl g1153 (hR 25 (by decide)) <|
  bb_iload_n (n := 1) (i := 1) (zd (i := .iload_n 1) (n := 1) (by decide +kernel)) rfl rfl <|
  bb_lift (fun _ => q_iconst (n := 0) (zd (i := .iconst (0)) (n := 1) (by decide +kernel)) rfl) <|
  bb_lift (fun _ => q_iast (k := 304) (zd (i := .iastore) (n := 1) (by decide +kernel)) (by decide +kernel) (by decide +kernel) h2) <|
  bb_aload_n (n := 0) (i := 0) (zd (i := .aload_n 0) (n := 1) (by decide +kernel)) rfl rfl <|
  bb_getr (k := 292) (ci := 9) (j := 28) (idx := 61) (a := 307) (zd (i := .getfield 61) (n := 3) (by decide +kernel)) (by decide +kernel) (by decide +kernel) (by decide +kernel) (by decide +kernel) rfl g1156 (hR 28 (by decide)) <|
  bb_iload_n (n := 1) (i := 1) (zd (i := .iload_n 1) (n := 1) (by decide +kernel)) rfl rfl <|
  bb_lift (fun _ => q_bipush (n := 24) (zd (i := .bipush (24)) (n := 2) (by decide +kernel)) rfl) <|
  bb_lift (fun _ => q_iast (k := 307) (zd (i := .iastore) (n := 1) (by decide +kernel)) (by decide +kernel) (by decide +kernel) h3) <|
  bb_aload_n (n := 0) (i := 0) (zd (i := .aload_n 0) (n := 1) (by decide +kernel)) rfl rfl <|
  bb_getr (k := 292) (ci := 9) (j := 29) (idx := 64) (a := 308) (zd (i := .getfield 64) (n := 3) (by decide +kernel)) (by decide +kernel) (by decide +kernel) (by decide +kernel) (by decide +kernel) rfl g1157 (hR 29 (by decide)) <|
  bb_iload_n (n := 1) (i := 1) (zd (i := .iload_n 1) (n := 1) (by decide +kernel)) rfl rfl <|
  bb_lift (fun _ => q_iconst (n := 0) (zd (i := .iconst (0)) (n := 1) (by decide +kernel)) rfl) <|
  bb_lift (fun _ => q_iast (k := 308) (zd (i := .iastore) (n := 1) (by decide +kernel)) (by decide +kernel) (by decide +kernel) h4) <|
  bb_aload_n (n := 0) (i := 0) (zd (i := .aload_n 0) (n := 1) (by decide +kernel)) rfl rfl <|
  bb_getr (k := 292) (ci := 9) (j := 30) (idx := 67) (a := 309) (zd (i := .getfield 67) (n := 3) (by decide +kernel)) (by decide +kernel) (by decide +kernel) (by decide +kernel) (by decide +kernel) rfl g1158 (hR 30 (by decide)) <|
  bb_iload_n (n := 1) (i := 1) (zd (i := .iload_n 1) (n := 1) (by decide +kernel)) rfl rfl <|
  bb_lift (fun _ => q_iconst (n := 0) (zd (i := .iconst (0)) (n := 1) (by decide +kernel)) rfl) <|
  bb_lift (fun _ => q_iast (k := 309) (zd (i := .iastore) (n := 1) (by decide +kernel)) (by decide +kernel) (by decide +kernel) h5) <|
  bb_aload_n (n := 0) (i := 0) (zd (i := .aload_n 0) (n := 1) (by decide +kernel)) rfl rfl <|
  bb_getr (k := 292) (ci := 9) (j := 31) (idx := 70) (a := 310) (zd (i := .getfield 70) (n := 3) (by decide +kernel)) (by decide +kernel) (by decide +kernel) (by decide +kernel) (by decide +kernel) rfl g1159 (hR 31 (by decide)) <|
  bb_iload_n (n := 1) (i := 1) (zd (i := .iload_n 1) (n := 1) (by decide +kernel)) rfl rfl <|
  bb_lift (fun _ => q_iconst (n := 0) (zd (i := .iconst (0)) (n := 1) (by decide +kernel)) rfl) <|
  bb_lift (fun _ => q_iast (k := 310) (zd (i := .iastore) (n := 1) (by decide +kernel)) (by decide +kernel) (by decide +kernel) h6) <|
  bb_lift (fun _ => q_iconst (n := 0) (zd (i := .iconst (0)) (n := 1) (by decide +kernel)) rfl) <|
  bb_istore_n (n := 2) (i := 2) (zd (i := .istore_n 2) (n := 1) (by decide +kernel)) rfl (by decide +kernel) (wkNl_i rfl) <|
  k
theorem w_X9_plain_45 {Q : qQ} {I : qMI} {L : qML} {R : qMR} {a1 : Int32} {a2 : Int32} (kt : 5 ≤ a2 → wkB l G (d + 1) n_X9_plain Q 78 [.ref 292, .int a1, .int a2] [] I L R) (kf : ¬ 5 ≤ a2 → wkB l G (d + 1) n_X9_plain Q 50 [.ref 292, .int a1, .int a2] [] I L R) : wkB l G (d + 1) n_X9_plain Q 45 [.ref 292, .int a1, .int a2] [] I L R :=
  bb_iload_n (n := 2) (i := 2) (zd (i := .iload_n 2) (n := 1) (by decide +kernel)) rfl rfl <|
  bb_lift (fun _ => q_iconst (n := 5) (zd (i := .iconst (5)) (n := 1) (by decide +kernel)) rfl) <|
  (fun lv hl => q_icmp_ge (off := 31) (tgt := 78) (zd (i := .if_icmp .ge (31)) (n := 3) (by decide +kernel)) (by decide) (fun h => (kt h) lv hl) (fun h => (kf h) lv hl))
theorem w_X9_plain_50 {Q : qQ} {I : qMI} {L : qML} {R : qMR} (hR : wkR R) {a1 : Int32} {a2 : Int32} (h1 : vp_in ((5 * a1) + a2) 10) (h2 : vp_in ((5 * a1) + a2) 10) (k : wkB l G (d + 1) n_X9_plain Q 45 [.ref 292, .int a1, .int (a2 + 1)] [] (qUp (qUp I 311 ((5 * a1) + a2).toNatClampNeg 0) 312 ((5 * a1) + a2).toNatClampNeg 0) L R) : wkB l G (d + 1) n_X9_plain Q 50 [.ref 292, .int a1, .int a2] [] I L R :=
  bb_aload_n (n := 0) (i := 0) (zd (i := .aload_n 0) (n := 1) (by decide +kernel)) rfl rfl <|
  bb_getr (k := 292) (ci := 9) (j := 32) (idx := 73) (a := 311) (zd (i := .getfield 73) (n := 3) (by decide +kernel)) (by decide +kernel) (by decide +kernel) (by decide +kernel) (by decide +kernel) rfl g1160 (hR 32 (by decide)) <|
  bb_lift (fun _ => q_iconst (n := 5) (zd (i := .iconst (5)) (n := 1) (by decide +kernel)) rfl) <|
  bb_iload_n (n := 1) (i := 1) (zd (i := .iload_n 1) (n := 1) (by decide +kernel)) rfl rfl <|
  bb_lift (fun _ => q_imul (zd (i := .imul) (n := 1) (by decide +kernel))) <|
  bb_iload_n (n := 2) (i := 2) (zd (i := .iload_n 2) (n := 1) (by decide +kernel)) rfl rfl <|
  bb_lift (fun _ => q_iadd (zd (i := .iadd) (n := 1) (by decide +kernel))) <|
  bb_lift (fun _ => q_iconst (n := 0) (zd (i := .iconst (0)) (n := 1) (by decide +kernel)) rfl) <|
  bb_lift (fun _ => q_iast (k := 311) (zd (i := .iastore) (n := 1) (by decide +kernel)) (by decide +kernel) (by decide +kernel) h1) <|
  bb_aload_n (n := 0) (i := 0) (zd (i := .aload_n 0) (n := 1) (by decide +kernel)) rfl rfl <|
  bb_getr (k := 292) (ci := 9) (j := 33) (idx := 76) (a := 312) (zd (i := .getfield 76) (n := 3) (by decide +kernel)) (by decide +kernel) (by decide +kernel) (by decide +kernel) (by decide +kernel) rfl g1161 (hR 33 (by decide)) <|
  bb_lift (fun _ => q_iconst (n := 5) (zd (i := .iconst (5)) (n := 1) (by decide +kernel)) rfl) <|
  bb_iload_n (n := 1) (i := 1) (zd (i := .iload_n 1) (n := 1) (by decide +kernel)) rfl rfl <|
  bb_lift (fun _ => q_imul (zd (i := .imul) (n := 1) (by decide +kernel))) <|
  bb_iload_n (n := 2) (i := 2) (zd (i := .iload_n 2) (n := 1) (by decide +kernel)) rfl rfl <|
  bb_lift (fun _ => q_iadd (zd (i := .iadd) (n := 1) (by decide +kernel))) <|
  bb_lift (fun _ => q_iconst (n := 0) (zd (i := .iconst (0)) (n := 1) (by decide +kernel)) rfl) <|
  bb_lift (fun _ => q_iast (k := 312) (zd (i := .iastore) (n := 1) (by decide +kernel)) (by decide +kernel) (by decide +kernel) h2) <|
  bb_iinc (i := 2) (n := 1) (zd (i := .iinc 2 (1)) (n := 3) (by decide +kernel)) rfl rfl (by decide +kernel) (wkNl_i rfl) <|
  bb_lift (fun _ => q_goto (off := -30) (tgt := 45) (zd (i := .goto (-30)) (n := 3) (by decide +kernel)) (by decide)) k
theorem w_X9_plain_78 {Q : qQ} {I : qMI} {L : qML} {R : qMR} {a1 : Int32} {a2 : Int32} (hQ : Q none 336 I L R) : wkB l G (d + 1) n_X9_plain Q 78 [.ref 292, .int a1, .int a2] [] I L R :=
  (fun lv hl => q_vret (zd (i := .return_) (n := 1) (by decide +kernel)) rfl (Nat.le_refl _) (Nat.le_refl _) hQ)
theorem w_X9_roomFor_0 {Q : qQ} {I : qMI} {L : qML} {R : qMR} {a1 : Int32} {a2 : Int32} (kt : ¬ a1 = a2 → wkB l G (d + 1) n_X9_roomFor Q 10 [.ref 292, .int a1, .int a2] [] I L R) (kf : a1 = a2 → wkB l G (d + 1) n_X9_roomFor Q 5 [.ref 292, .int a1, .int a2] [] I L R) : wkB l G (d + 1) n_X9_roomFor Q 0 [.ref 292, .int a1, .int a2] [] I L R :=
  bb_iload_n (n := 1) (i := 1) (zd (i := .iload_n 1) (n := 1) (by decide +kernel)) rfl rfl <|
  bb_iload_n (n := 2) (i := 2) (zd (i := .iload_n 2) (n := 1) (by decide +kernel)) rfl rfl <|
  (fun lv hl => q_icmp_ne (off := 8) (tgt := 10) (zd (i := .if_icmp .ne (8)) (n := 3) (by decide +kernel)) (by decide) (fun h => (kt h) lv hl) (fun h => (kf h) lv hl))
theorem w_X9_roomFor_5 {Q : qQ} {I : qMI} {L : qML} {R : qMR} {a1 : Int32} {a2 : Int32} {P : qMI → qML → Prop} (hc : wkV l G d n_X9_fail [.ref 292, .int 2] I L R P) (kk : ∀ I' L', P I' L' → wkB l G (d + 1) n_X9_roomFor Q 10 [.ref 292, .int a1, .int a2] [] I' L' R) : wkB l G (d + 1) n_X9_roomFor Q 5 [.ref 292, .int a1, .int a2] [] I L R :=
  bb_aload_n (n := 0) (i := 0) (zd (i := .aload_n 0) (n := 1) (by decide +kernel)) rfl rfl <|
  bb_lift (fun _ => q_iconst (n := 2) (zd (i := .iconst (2)) (n := 1) (by decide +kernel)) rfl) <|
  bb_callVV (idx := 215) (k := 292) (ci := 9) (N := n_X9_fail) (As := [.int 2]) (st := []) (zd (i := .invokevirtual 215) (n := 3) (by decide +kernel)) to_X9_fail g1374 g1376 g52 (Nat.le_of_ble_eq_true rfl) (by decide +kernel) (by decide +kernel) (by decide +kernel) rfl rfl rfl hc kk
theorem w_X9_roomFor_10 {Q : qQ} {I : qMI} {L : qML} {R : qMR} {a1 : Int32} {a2 : Int32} (kt : ¬ (I 292 13) = 0 → wkB l G (d + 1) n_X9_roomFor Q 21 [.ref 292, .int a1, .int a2] [] I L R) (kf : (I 292 13) = 0 → wkB l G (d + 1) n_X9_roomFor Q 17 [.ref 292, .int a1, .int a2] [] I L R) : wkB l G (d + 1) n_X9_roomFor Q 10 [.ref 292, .int a1, .int a2] [] I L R :=
  bb_aload_n (n := 0) (i := 0) (zd (i := .aload_n 0) (n := 1) (by decide +kernel)) rfl rfl <|
  bb_geti (k := 292) (ci := 9) (j := 13) (idx := 200) (zd (i := .getfield 200) (n := 3) (by decide +kernel)) (by decide +kernel) (by decide +kernel) (by decide +kernel) (by decide +kernel) rfl g1141 <|
  (fun lv hl => q_if_ne (off := 7) (tgt := 21) (zd (i := .ifCond .ne (7)) (n := 3) (by decide +kernel)) (by decide) (fun h => (kt h) lv hl) (fun h => (kf h) lv hl))
theorem w_X9_roomFor_17 {Q : qQ} {I : qMI} {L : qML} {R : qMR} {a1 : Int32} {a2 : Int32} {P : qMI → qML → Prop} (hc : wkV l G d n_X9_goesOn [.ref 292] I L R P) (kk : ∀ I' L', P I' L' → wkB l G (d + 1) n_X9_roomFor Q 21 [.ref 292, .int a1, .int a2] [] I' L' R) : wkB l G (d + 1) n_X9_roomFor Q 17 [.ref 292, .int a1, .int a2] [] I L R :=
  bb_aload_n (n := 0) (i := 0) (zd (i := .aload_n 0) (n := 1) (by decide +kernel)) rfl rfl <|
  bb_callVV (idx := 221) (k := 292) (ci := 9) (N := n_X9_goesOn) (As := []) (st := []) (zd (i := .invokevirtual 221) (n := 3) (by decide +kernel)) to_X9_goesOn g1378 g1380 g53 (Nat.le_of_ble_eq_true rfl) (by decide +kernel) (by decide +kernel) (by decide +kernel) rfl rfl rfl hc kk
theorem w_X9_roomFor_21 {Q : qQ} {I : qMI} {L : qML} {R : qMR} {a1 : Int32} {a2 : Int32} (hQ : Q none 336 I L R) : wkB l G (d + 1) n_X9_roomFor Q 21 [.ref 292, .int a1, .int a2] [] I L R :=
  (fun lv hl => q_vret (zd (i := .return_) (n := 1) (by decide +kernel)) rfl (Nat.le_refl _) (Nat.le_refl _) hQ)
theorem w_X9_toldInt_0 {Q : qQ} {I : qMI} {L : qML} {R : qMR} {a1 : Int32} {a2 : Int32} {P : qMI → qML → Prop} (hc : wkV l G d n_X9_goesOn [.ref 292] I L R P) (kk : ∀ I' L', P I' L' → wkB l G (d + 1) n_X9_toldInt Q 4 [.ref 292, .int a1, .int a2, wkU] [] I' L' R) : wkB l G (d + 1) n_X9_toldInt Q 0 [.ref 292, .int a1, .int a2, wkU] [] I L R :=
  bb_aload_n (n := 0) (i := 0) (zd (i := .aload_n 0) (n := 1) (by decide +kernel)) rfl rfl <|
  bb_callVV (idx := 221) (k := 292) (ci := 9) (N := n_X9_goesOn) (As := []) (st := []) (zd (i := .invokevirtual 221) (n := 3) (by decide +kernel)) to_X9_goesOn g1378 g1380 g53 (Nat.le_of_ble_eq_true rfl) (by decide +kernel) (by decide +kernel) (by decide +kernel) rfl rfl rfl hc kk
theorem w_X9_toldInt_4 {Q : qQ} {I : qMI} {L : qML} {R : qMR} {a1 : Int32} {a2 : Int32} {P : Int32 → qMI → qML → Prop} (hc : wkI l G d n_X9_bounded [.ref 292, .int a1, .int a2] I L R P) (kk : ∀ y I' L', P y I' L' → wkB l G (d + 1) n_X9_toldInt Q 10 [.ref 292, .int a1, .int a2, wkU] [.int y] I' L' R) : wkB l G (d + 1) n_X9_toldInt Q 4 [.ref 292, .int a1, .int a2, wkU] [] I L R :=
  bb_aload_n (n := 0) (i := 0) (zd (i := .aload_n 0) (n := 1) (by decide +kernel)) rfl rfl <|
  bb_iload_n (n := 1) (i := 1) (zd (i := .iload_n 1) (n := 1) (by decide +kernel)) rfl rfl <|
  bb_iload_n (n := 2) (i := 2) (zd (i := .iload_n 2) (n := 1) (by decide +kernel)) rfl rfl <|
  bb_callVI (idx := 254) (k := 292) (ci := 9) (N := n_X9_bounded) (As := [.int a1, .int a2]) (st := []) (zd (i := .invokevirtual 254) (n := 3) (by decide +kernel)) to_X9_bounded g1394 g1396 g57 (Nat.le_of_ble_eq_true rfl) (by decide +kernel) (by decide +kernel) (by decide +kernel) rfl rfl rfl hc kk
theorem w_X9_toldInt_10 {Q : qQ} {I : qMI} {L : qML} {R : qMR} {a1 : Int32} {a2 : Int32} {s0 : Int32} {P : qMI → qML → Prop} (hc : wkV l G d n_X9_must [.ref 292, .int 4] I L R P) (kk : ∀ I' L', P I' L' → wkB l G (d + 1) n_X9_toldInt Q 16 [.ref 292, .int a1, .int a2, .int s0] [] I' L' R) : wkB l G (d + 1) n_X9_toldInt Q 10 [.ref 292, .int a1, .int a2, wkU] [.int s0] I L R :=
  bb_istore_n (n := 3) (i := 3) (zd (i := .istore_n 3) (n := 1) (by decide +kernel)) rfl (by decide +kernel) (wkNl_i rfl) <|
  bb_aload_n (n := 0) (i := 0) (zd (i := .aload_n 0) (n := 1) (by decide +kernel)) rfl rfl <|
  bb_lift (fun _ => q_iconst (n := 4) (zd (i := .iconst (4)) (n := 1) (by decide +kernel)) rfl) <|
  bb_callVV (idx := 258) (k := 292) (ci := 9) (N := n_X9_must) (As := [.int 4]) (st := []) (zd (i := .invokevirtual 258) (n := 3) (by decide +kernel)) to_X9_must g1386 g1388 g55 (Nat.le_of_ble_eq_true rfl) (by decide +kernel) (by decide +kernel) (by decide +kernel) rfl rfl rfl hc kk
theorem w_X9_toldInt_16 {Q : qQ} {I : qMI} {L : qML} {R : qMR} {a1 : Int32} {a2 : Int32} {a3 : Int32} (hQ : Q (some (.int a3)) 336 I L R) : wkB l G (d + 1) n_X9_toldInt Q 16 [.ref 292, .int a1, .int a2, .int a3] [] I L R :=
  bb_iload_n (n := 3) (i := 3) (zd (i := .iload_n 3) (n := 1) (by decide +kernel)) rfl rfl <|
  (fun lv hl => q_iret (zd (i := .ireturn) (n := 1) (by decide +kernel)) rfl rfl (Nat.le_refl _) (Nat.le_refl _) hQ)
theorem w_X9_named_0 {Q : qQ} {I : qMI} {L : qML} {R : qMR}  {P : qMI → qML → Prop} (hc : wkV l G d n_X9_must [.ref 292, .int 1] I L R P) (kk : ∀ I' L', P I' L' → wkB l G (d + 1) n_X9_named Q 10 [.ref 292, .int (I 292 11), wkU] [] I' L' R) : wkB l G (d + 1) n_X9_named Q 0 [.ref 292, wkU, wkU] [] I L R :=
  bb_aload_n (n := 0) (i := 0) (zd (i := .aload_n 0) (n := 1) (by decide +kernel)) rfl rfl <|
  bb_geti (k := 292) (ci := 9) (j := 11) (idx := 203) (zd (i := .getfield 203) (n := 3) (by decide +kernel)) (by decide +kernel) (by decide +kernel) (by decide +kernel) (by decide +kernel) rfl g1139 <|
  bb_istore_n (n := 1) (i := 1) (zd (i := .istore_n 1) (n := 1) (by decide +kernel)) rfl (by decide +kernel) (wkNl_r rfl) <|
  bb_aload_n (n := 0) (i := 0) (zd (i := .aload_n 0) (n := 1) (by decide +kernel)) rfl rfl <|
  bb_lift (fun _ => q_iconst (n := 1) (zd (i := .iconst (1)) (n := 1) (by decide +kernel)) rfl) <|
  bb_callVV (idx := 258) (k := 292) (ci := 9) (N := n_X9_must) (As := [.int 1]) (st := []) (zd (i := .invokevirtual 258) (n := 3) (by decide +kernel)) to_X9_must g1386 g1388 g55 (Nat.le_of_ble_eq_true rfl) (by decide +kernel) (by decide +kernel) (by decide +kernel) rfl rfl rfl hc kk
theorem w_X9_named_10 {Q : qQ} {I : qMI} {L : qML} {R : qMR} {a1 : Int32} (k : wkB l G (d + 1) n_X9_named Q 12 [.ref 292, .int a1, .int 0] [] I L R) : wkB l G (d + 1) n_X9_named Q 10 [.ref 292, .int a1, wkU] [] I L R :=
  bb_lift (fun _ => q_iconst (n := 0) (zd (i := .iconst (0)) (n := 1) (by decide +kernel)) rfl) <|
  bb_istore_n (n := 2) (i := 2) (zd (i := .istore_n 2) (n := 1) (by decide +kernel)) rfl (by decide +kernel) (wkNl_i rfl) <|
  k
theorem w_X9_named_12 {Q : qQ} {I : qMI} {L : qML} {R : qMR} {a1 : Int32} {a2 : Int32} (kt : (I 292 20) ≤ a2 → wkB l G (d + 1) n_X9_named Q 55 [.ref 292, .int a1, .int a2] [] I L R) (kf : ¬ (I 292 20) ≤ a2 → wkB l G (d + 1) n_X9_named Q 20 [.ref 292, .int a1, .int a2] [] I L R) : wkB l G (d + 1) n_X9_named Q 12 [.ref 292, .int a1, .int a2] [] I L R :=
  bb_iload_n (n := 2) (i := 2) (zd (i := .iload_n 2) (n := 1) (by decide +kernel)) rfl rfl <|
  bb_aload_n (n := 0) (i := 0) (zd (i := .aload_n 0) (n := 1) (by decide +kernel)) rfl rfl <|
  bb_geti (k := 292) (ci := 9) (j := 20) (idx := 236) (zd (i := .getfield 236) (n := 3) (by decide +kernel)) (by decide +kernel) (by decide +kernel) (by decide +kernel) (by decide +kernel) rfl g1148 <|
  (fun lv hl => q_icmp_ge (off := 38) (tgt := 55) (zd (i := .if_icmp .ge (38)) (n := 3) (by decide +kernel)) (by decide) (fun h => (kt h) lv hl) (fun h => (kf h) lv hl))
theorem w_X9_named_20 {Q : qQ} {I : qMI} {L : qML} {R : qMR} {a1 : Int32} {a2 : Int32} (kt : ¬ (I 292 13) = 0 → wkB l G (d + 1) n_X9_named Q 55 [.ref 292, .int a1, .int a2] [] I L R) (kf : (I 292 13) = 0 → wkB l G (d + 1) n_X9_named Q 27 [.ref 292, .int a1, .int a2] [] I L R) : wkB l G (d + 1) n_X9_named Q 20 [.ref 292, .int a1, .int a2] [] I L R :=
  bb_aload_n (n := 0) (i := 0) (zd (i := .aload_n 0) (n := 1) (by decide +kernel)) rfl rfl <|
  bb_geti (k := 292) (ci := 9) (j := 13) (idx := 200) (zd (i := .getfield 200) (n := 3) (by decide +kernel)) (by decide +kernel) (by decide +kernel) (by decide +kernel) (by decide +kernel) rfl g1141 <|
  (fun lv hl => q_if_ne (off := 31) (tgt := 55) (zd (i := .ifCond .ne (31)) (n := 3) (by decide +kernel)) (by decide) (fun h => (kt h) lv hl) (fun h => (kf h) lv hl))
theorem w_X9_named_27 {Q : qQ} {I : qMI} {L : qML} {R : qMR} (hR : wkR R) {a1 : Int32} {a2 : Int32} (h1 : vp_in a2 12) (h2 : vp_in a1 403) (kt : ¬ (lg_cmp (L 300 a2.toNatClampNeg) (L 298 a1.toNatClampNeg)) = 0 → wkB l G (d + 1) n_X9_named Q 49 [.ref 292, .int a1, .int a2] [] I L R) (kf : (lg_cmp (L 300 a2.toNatClampNeg) (L 298 a1.toNatClampNeg)) = 0 → wkB l G (d + 1) n_X9_named Q 43 [.ref 292, .int a1, .int a2] [] I L R) : wkB l G (d + 1) n_X9_named Q 27 [.ref 292, .int a1, .int a2] [] I L R :=
  bb_aload_n (n := 0) (i := 0) (zd (i := .aload_n 0) (n := 1) (by decide +kernel)) rfl rfl <|
  bb_getr (k := 292) (ci := 9) (j := 21) (idx := 40) (a := 300) (zd (i := .getfield 40) (n := 3) (by decide +kernel)) (by decide +kernel) (by decide +kernel) (by decide +kernel) (by decide +kernel) rfl g1149 (hR 21 (by decide)) <|
  bb_iload_n (n := 2) (i := 2) (zd (i := .iload_n 2) (n := 1) (by decide +kernel)) rfl rfl <|
  bb_lift (fun _ => q_lald (k := 300) (zd (i := .laload) (n := 1) (by decide +kernel)) (by decide +kernel) (by decide +kernel) h1) <|
  bb_aload_n (n := 0) (i := 0) (zd (i := .aload_n 0) (n := 1) (by decide +kernel)) rfl rfl <|
  bb_getr (k := 292) (ci := 9) (j := 8) (idx := 30) (a := 298) (zd (i := .getfield 30) (n := 3) (by decide +kernel)) (by decide +kernel) (by decide +kernel) (by decide +kernel) (by decide +kernel) rfl g1136 (hR 8 (by decide)) <|
  bb_iload_n (n := 1) (i := 1) (zd (i := .iload_n 1) (n := 1) (by decide +kernel)) rfl rfl <|
  bb_lift (fun _ => q_lald (k := 298) (zd (i := .laload) (n := 1) (by decide +kernel)) (by decide +kernel) (by decide +kernel) h2) <|
  bb_lift (fun _ => q_lcmp (zd (i := .lcmp) (n := 1) (by decide +kernel))) <|
  (fun lv hl => q_if_ne (off := 9) (tgt := 49) (zd (i := .ifCond .ne (9)) (n := 3) (by decide +kernel)) (by decide) (fun h => (kt h) lv hl) (fun h => (kf h) lv hl))
theorem w_X9_named_43 {Q : qQ} {I : qMI} {L : qML} {R : qMR} {a1 : Int32} {a2 : Int32} {P : qMI → qML → Prop} (hc : wkV l G d n_X9_wrong [.ref 292, .int 3, .int a1] I L R P) (kk : ∀ I' L', P I' L' → wkB l G (d + 1) n_X9_named Q 49 [.ref 292, .int a1, .int a2] [] I' L' R) : wkB l G (d + 1) n_X9_named Q 43 [.ref 292, .int a1, .int a2] [] I L R :=
  bb_aload_n (n := 0) (i := 0) (zd (i := .aload_n 0) (n := 1) (by decide +kernel)) rfl rfl <|
  bb_lift (fun _ => q_iconst (n := 3) (zd (i := .iconst (3)) (n := 1) (by decide +kernel)) rfl) <|
  bb_iload_n (n := 1) (i := 1) (zd (i := .iload_n 1) (n := 1) (by decide +kernel)) rfl rfl <|
  bb_callVV (idx := 278) (k := 292) (ci := 9) (N := n_X9_wrong) (As := [.int 3, .int a1]) (st := []) (zd (i := .invokevirtual 278) (n := 3) (by decide +kernel)) to_X9_wrong g1390 g1392 g56 (Nat.le_of_ble_eq_true rfl) (by decide +kernel) (by decide +kernel) (by decide +kernel) rfl rfl rfl hc kk
theorem w_X9_named_49 {Q : qQ} {I : qMI} {L : qML} {R : qMR} {a1 : Int32} {a2 : Int32} (k : wkB l G (d + 1) n_X9_named Q 12 [.ref 292, .int a1, .int (a2 + 1)] [] I L R) : wkB l G (d + 1) n_X9_named Q 49 [.ref 292, .int a1, .int a2] [] I L R :=
  bb_iinc (i := 2) (n := 1) (zd (i := .iinc 2 (1)) (n := 3) (by decide +kernel)) rfl rfl (by decide +kernel) (wkNl_i rfl) <|
  bb_lift (fun _ => q_goto (off := -40) (tgt := 12) (zd (i := .goto (-40)) (n := 3) (by decide +kernel)) (by decide)) k
theorem w_X9_named_55 {Q : qQ} {I : qMI} {L : qML} {R : qMR} {a1 : Int32} {a2 : Int32} (hQ : Q (some (.int a1)) 336 I L R) : wkB l G (d + 1) n_X9_named Q 55 [.ref 292, .int a1, .int a2] [] I L R :=
  bb_iload_n (n := 1) (i := 1) (zd (i := .iload_n 1) (n := 1) (by decide +kernel)) rfl rfl <|
  (fun lv hl => q_iret (zd (i := .ireturn) (n := 1) (by decide +kernel)) rfl rfl (Nat.le_refl _) (Nat.le_refl _) hQ)
theorem w_X9_ends_0 {Q : qQ} {I : qMI} {L : qML} {R : qMR} {a1 : Int32} {P : qMI → qML → Prop} (hc : wkV l G d n_X9_must [.ref 292, .int 4] I L R P) (kk : ∀ I' L', P I' L' → wkB l G (d + 1) n_X9_ends Q 5 [.ref 292, .int a1] [] I' L' R) : wkB l G (d + 1) n_X9_ends Q 0 [.ref 292, .int a1] [] I L R :=
  bb_aload_n (n := 0) (i := 0) (zd (i := .aload_n 0) (n := 1) (by decide +kernel)) rfl rfl <|
  bb_lift (fun _ => q_iconst (n := 4) (zd (i := .iconst (4)) (n := 1) (by decide +kernel)) rfl) <|
  bb_callVV (idx := 258) (k := 292) (ci := 9) (N := n_X9_must) (As := [.int 4]) (st := []) (zd (i := .invokevirtual 258) (n := 3) (by decide +kernel)) to_X9_must g1386 g1388 g55 (Nat.le_of_ble_eq_true rfl) (by decide +kernel) (by decide +kernel) (by decide +kernel) rfl rfl rfl hc kk
theorem w_X9_ends_5 {Q : qQ} {I : qMI} {L : qML} {R : qMR} {a1 : Int32} (kt : (I 292 13) ≤ 0 → wkB l G (d + 1) n_X9_ends Q 13 [.ref 292, .int a1] [] I L R) (kf : ¬ (I 292 13) ≤ 0 → wkB l G (d + 1) n_X9_ends Q 12 [.ref 292, .int a1] [] I L R) : wkB l G (d + 1) n_X9_ends Q 5 [.ref 292, .int a1] [] I L R :=
  bb_aload_n (n := 0) (i := 0) (zd (i := .aload_n 0) (n := 1) (by decide +kernel)) rfl rfl <|
  bb_geti (k := 292) (ci := 9) (j := 13) (idx := 200) (zd (i := .getfield 200) (n := 3) (by decide +kernel)) (by decide +kernel) (by decide +kernel) (by decide +kernel) (by decide +kernel) rfl g1141 <|
  (fun lv hl => q_if_le (off := 4) (tgt := 13) (zd (i := .ifCond .le (4)) (n := 3) (by decide +kernel)) (by decide) (fun h => (kt h) lv hl) (fun h => (kf h) lv hl))
theorem w_X9_ends_12 {Q : qQ} {I : qMI} {L : qML} {R : qMR} {a1 : Int32} (hQ : Q none 336 I L R) : wkB l G (d + 1) n_X9_ends Q 12 [.ref 292, .int a1] [] I L R :=
  (fun lv hl => q_vret (zd (i := .return_) (n := 1) (by decide +kernel)) rfl (Nat.le_refl _) (Nat.le_refl _) hQ)
theorem w_X9_ends_13 {Q : qQ} {I : qMI} {L : qML} {R : qMR} (hR : wkR R) {a1 : Int32} (h1 : vp_in a1 403) (h2 : vp_in (I 292 20) 12) (hQ : Q none 336 (qUp I 292 20 ((I 292 20) + 1)) (qUpL L 300 (I 292 20).toNatClampNeg (L 298 a1.toNatClampNeg)) R) : wkB l G (d + 1) n_X9_ends Q 13 [.ref 292, .int a1] [] I L R :=
  bb_aload_n (n := 0) (i := 0) (zd (i := .aload_n 0) (n := 1) (by decide +kernel)) rfl rfl <|
  bb_getr (k := 292) (ci := 9) (j := 21) (idx := 40) (a := 300) (zd (i := .getfield 40) (n := 3) (by decide +kernel)) (by decide +kernel) (by decide +kernel) (by decide +kernel) (by decide +kernel) rfl g1149 (hR 21 (by decide)) <|
  bb_aload_n (n := 0) (i := 0) (zd (i := .aload_n 0) (n := 1) (by decide +kernel)) rfl rfl <|
  bb_geti (k := 292) (ci := 9) (j := 20) (idx := 236) (zd (i := .getfield 236) (n := 3) (by decide +kernel)) (by decide +kernel) (by decide +kernel) (by decide +kernel) (by decide +kernel) rfl g1148 <|
  bb_aload_n (n := 0) (i := 0) (zd (i := .aload_n 0) (n := 1) (by decide +kernel)) rfl rfl <|
  bb_getr (k := 292) (ci := 9) (j := 8) (idx := 30) (a := 298) (zd (i := .getfield 30) (n := 3) (by decide +kernel)) (by decide +kernel) (by decide +kernel) (by decide +kernel) (by decide +kernel) rfl g1136 (hR 8 (by decide)) <|
  bb_iload_n (n := 1) (i := 1) (zd (i := .iload_n 1) (n := 1) (by decide +kernel)) rfl rfl <|
  bb_lift (fun _ => q_lald (k := 298) (zd (i := .laload) (n := 1) (by decide +kernel)) (by decide +kernel) (by decide +kernel) h1) <|
  bb_lift (fun _ => q_last (k := 300) (zd (i := .lastore) (n := 1) (by decide +kernel)) (by decide +kernel) (by decide +kernel) h2) <|
  bb_aload_n (n := 0) (i := 0) (zd (i := .aload_n 0) (n := 1) (by decide +kernel)) rfl rfl <|
  bb_lift (fun _ => q_dup (zd (i := .dup) (n := 1) (by decide +kernel)) rfl) <|
  bb_geti (k := 292) (ci := 9) (j := 20) (idx := 236) (zd (i := .getfield 236) (n := 3) (by decide +kernel)) (by decide +kernel) (by decide +kernel) (by decide +kernel) (by decide +kernel) rfl g1148 <|
  bb_lift (fun _ => q_iconst (n := 1) (zd (i := .iconst (1)) (n := 1) (by decide +kernel)) rfl) <|
  bb_lift (fun _ => q_iadd (zd (i := .iadd) (n := 1) (by decide +kernel))) <|
  bb_puti (k := 292) (ci := 9) (j := 20) (idx := 236) (zd (i := .putfield 236) (n := 3) (by decide +kernel)) (by decide +kernel) (by decide +kernel) (by decide +kernel) (by decide +kernel) g1148 rfl rfl <|
  (fun lv hl => q_vret (zd (i := .return_) (n := 1) (by decide +kernel)) rfl (Nat.le_refl _) (Nat.le_refl _) hQ)
theorem w_X9_bounded_0 {Q : qQ} {I : qMI} {L : qML} {R : qMR} {a1 : Int32} {a2 : Int32} (kt : 0 < (I 292 13) → wkB l G (d + 1) n_X9_bounded Q 15 [.ref 292, .int a1, .int a2, wkU] [] I L R) (kf : ¬ 0 < (I 292 13) → wkB l G (d + 1) n_X9_bounded Q 7 [.ref 292, .int a1, .int a2, wkU] [] I L R) : wkB l G (d + 1) n_X9_bounded Q 0 [.ref 292, .int a1, .int a2, wkU] [] I L R :=
  bb_aload_n (n := 0) (i := 0) (zd (i := .aload_n 0) (n := 1) (by decide +kernel)) rfl rfl <|
  bb_geti (k := 292) (ci := 9) (j := 13) (idx := 200) (zd (i := .getfield 200) (n := 3) (by decide +kernel)) (by decide +kernel) (by decide +kernel) (by decide +kernel) (by decide +kernel) rfl g1141 <|
  (fun lv hl => q_if_gt (off := 11) (tgt := 15) (zd (i := .ifCond .gt (11)) (n := 3) (by decide +kernel)) (by decide) (fun h => (kt h) lv hl) (fun h => (kf h) lv hl))
theorem w_X9_bounded_7 {Q : qQ} {I : qMI} {L : qML} {R : qMR} {a1 : Int32} {a2 : Int32} {P : Int32 → qMI → qML → Prop} (hc : wkI l G d n_X9_is [.ref 292, .int 2] I L R P) (kk : ∀ y I' L', P y I' L' → wkB l G (d + 1) n_X9_bounded Q 12 [.ref 292, .int a1, .int a2, wkU] [.int y] I' L' R) : wkB l G (d + 1) n_X9_bounded Q 7 [.ref 292, .int a1, .int a2, wkU] [] I L R :=
  bb_aload_n (n := 0) (i := 0) (zd (i := .aload_n 0) (n := 1) (by decide +kernel)) rfl rfl <|
  bb_lift (fun _ => q_iconst (n := 2) (zd (i := .iconst (2)) (n := 1) (by decide +kernel)) rfl) <|
  bb_callVI (idx := 218) (k := 292) (ci := 9) (N := n_X9_is) (As := [.int 2]) (st := []) (zd (i := .invokevirtual 218) (n := 3) (by decide +kernel)) to_X9_is g1362 g1364 g49 (Nat.le_of_ble_eq_true rfl) (by decide +kernel) (by decide +kernel) (by decide +kernel) rfl rfl rfl hc kk
theorem w_X9_bounded_12 {Q : qQ} {I : qMI} {L : qML} {R : qMR} {a1 : Int32} {a2 : Int32} {s0 : Int32} (kt : ¬ s0 = 0 → wkB l G (d + 1) n_X9_bounded Q 22 [.ref 292, .int a1, .int a2, wkU] [] I L R) (kf : s0 = 0 → wkB l G (d + 1) n_X9_bounded Q 15 [.ref 292, .int a1, .int a2, wkU] [] I L R) : wkB l G (d + 1) n_X9_bounded Q 12 [.ref 292, .int a1, .int a2, wkU] [.int s0] I L R :=
  (fun lv hl => q_if_ne (off := 10) (tgt := 22) (zd (i := .ifCond .ne (10)) (n := 3) (by decide +kernel)) (by decide) (fun h => (kt h) lv hl) (fun h => (kf h) lv hl))
theorem w_X9_bounded_15 {Q : qQ} {I : qMI} {L : qML} {R : qMR} {a1 : Int32} {a2 : Int32} {P : qMI → qML → Prop} (hc : wkV l G d n_X9_fail [.ref 292, .int 1] I L R P) (kk : ∀ I' L', P I' L' → wkB l G (d + 1) n_X9_bounded Q 20 [.ref 292, .int a1, .int a2, wkU] [] I' L' R) : wkB l G (d + 1) n_X9_bounded Q 15 [.ref 292, .int a1, .int a2, wkU] [] I L R :=
  bb_aload_n (n := 0) (i := 0) (zd (i := .aload_n 0) (n := 1) (by decide +kernel)) rfl rfl <|
  bb_lift (fun _ => q_iconst (n := 1) (zd (i := .iconst (1)) (n := 1) (by decide +kernel)) rfl) <|
  bb_callVV (idx := 215) (k := 292) (ci := 9) (N := n_X9_fail) (As := [.int 1]) (st := []) (zd (i := .invokevirtual 215) (n := 3) (by decide +kernel)) to_X9_fail g1374 g1376 g52 (Nat.le_of_ble_eq_true rfl) (by decide +kernel) (by decide +kernel) (by decide +kernel) rfl rfl rfl hc kk
theorem w_X9_bounded_20 {Q : qQ} {I : qMI} {L : qML} {R : qMR} {a1 : Int32} {a2 : Int32} (hQ : Q (some (.int a1)) 336 I L R) : wkB l G (d + 1) n_X9_bounded Q 20 [.ref 292, .int a1, .int a2, wkU] [] I L R :=
  bb_iload_n (n := 1) (i := 1) (zd (i := .iload_n 1) (n := 1) (by decide +kernel)) rfl rfl <|
  (fun lv hl => q_iret (zd (i := .ireturn) (n := 1) (by decide +kernel)) rfl rfl (Nat.le_refl _) (Nat.le_refl _) hQ)
theorem w_X9_bounded_22 {Q : qQ} {I : qMI} {L : qML} {R : qMR} (hR : wkR R) {a1 : Int32} {a2 : Int32} (h1 : vp_in (I 292 11) 403) (kt : (I 297 (I 292 11).toNatClampNeg) < a1 → wkB l G (d + 1) n_X9_bounded Q 42 [.ref 292, .int a1, .int a2, .int (I 297 (I 292 11).toNatClampNeg)] [] I L R) (kf : ¬ (I 297 (I 292 11).toNatClampNeg) < a1 → wkB l G (d + 1) n_X9_bounded Q 37 [.ref 292, .int a1, .int a2, .int (I 297 (I 292 11).toNatClampNeg)] [] I L R) : wkB l G (d + 1) n_X9_bounded Q 22 [.ref 292, .int a1, .int a2, wkU] [] I L R :=
  bb_aload_n (n := 0) (i := 0) (zd (i := .aload_n 0) (n := 1) (by decide +kernel)) rfl rfl <|
  bb_getr (k := 292) (ci := 9) (j := 7) (idx := 27) (a := 297) (zd (i := .getfield 27) (n := 3) (by decide +kernel)) (by decide +kernel) (by decide +kernel) (by decide +kernel) (by decide +kernel) rfl g1135 (hR 7 (by decide)) <|
  bb_aload_n (n := 0) (i := 0) (zd (i := .aload_n 0) (n := 1) (by decide +kernel)) rfl rfl <|
  bb_geti (k := 292) (ci := 9) (j := 11) (idx := 203) (zd (i := .getfield 203) (n := 3) (by decide +kernel)) (by decide +kernel) (by decide +kernel) (by decide +kernel) (by decide +kernel) rfl g1139 <|
  bb_lift (fun _ => q_iald (k := 297) (zd (i := .iaload) (n := 1) (by decide +kernel)) (by decide +kernel) (by decide +kernel) h1) <|
  bb_istore_n (n := 3) (i := 3) (zd (i := .istore_n 3) (n := 1) (by decide +kernel)) rfl (by decide +kernel) (wkNl_i rfl) <|
  bb_iload_n (n := 3) (i := 3) (zd (i := .iload_n 3) (n := 1) (by decide +kernel)) rfl rfl <|
  bb_iload_n (n := 1) (i := 1) (zd (i := .iload_n 1) (n := 1) (by decide +kernel)) rfl rfl <|
  (fun lv hl => q_icmp_lt (off := 8) (tgt := 42) (zd (i := .if_icmp .lt (8)) (n := 3) (by decide +kernel)) (by decide) (fun h => (kt h) lv hl) (fun h => (kf h) lv hl))
theorem w_X9_bounded_37 {Q : qQ} {I : qMI} {L : qML} {R : qMR} {a1 : Int32} {a2 : Int32} {a3 : Int32} (kt : a3 ≤ a2 → wkB l G (d + 1) n_X9_bounded Q 51 [.ref 292, .int a1, .int a2, .int a3] [] I L R) (kf : ¬ a3 ≤ a2 → wkB l G (d + 1) n_X9_bounded Q 42 [.ref 292, .int a1, .int a2, .int a3] [] I L R) : wkB l G (d + 1) n_X9_bounded Q 37 [.ref 292, .int a1, .int a2, .int a3] [] I L R :=
  bb_iload_n (n := 3) (i := 3) (zd (i := .iload_n 3) (n := 1) (by decide +kernel)) rfl rfl <|
  bb_iload_n (n := 2) (i := 2) (zd (i := .iload_n 2) (n := 1) (by decide +kernel)) rfl rfl <|
  (fun lv hl => q_icmp_le (off := 12) (tgt := 51) (zd (i := .if_icmp .le (12)) (n := 3) (by decide +kernel)) (by decide) (fun h => (kt h) lv hl) (fun h => (kf h) lv hl))
theorem w_X9_bounded_42 {Q : qQ} {I : qMI} {L : qML} {R : qMR} {a1 : Int32} {a2 : Int32} {a3 : Int32} {P : qMI → qML → Prop} (hc : wkV l G d n_X9_wrong [.ref 292, .int 5, .int (I 292 11)] I L R P) (kk : ∀ I' L', P I' L' → wkB l G (d + 1) n_X9_bounded Q 51 [.ref 292, .int a1, .int a2, .int a3] [] I' L' R) : wkB l G (d + 1) n_X9_bounded Q 42 [.ref 292, .int a1, .int a2, .int a3] [] I L R :=
  bb_aload_n (n := 0) (i := 0) (zd (i := .aload_n 0) (n := 1) (by decide +kernel)) rfl rfl <|
  bb_lift (fun _ => q_iconst (n := 5) (zd (i := .iconst (5)) (n := 1) (by decide +kernel)) rfl) <|
  bb_aload_n (n := 0) (i := 0) (zd (i := .aload_n 0) (n := 1) (by decide +kernel)) rfl rfl <|
  bb_geti (k := 292) (ci := 9) (j := 11) (idx := 203) (zd (i := .getfield 203) (n := 3) (by decide +kernel)) (by decide +kernel) (by decide +kernel) (by decide +kernel) (by decide +kernel) rfl g1139 <|
  bb_callVV (idx := 278) (k := 292) (ci := 9) (N := n_X9_wrong) (As := [.int 5, .int (I 292 11)]) (st := []) (zd (i := .invokevirtual 278) (n := 3) (by decide +kernel)) to_X9_wrong g1390 g1392 g56 (Nat.le_of_ble_eq_true rfl) (by decide +kernel) (by decide +kernel) (by decide +kernel) rfl rfl rfl hc kk
theorem w_X9_bounded_51 {Q : qQ} {I : qMI} {L : qML} {R : qMR} {a1 : Int32} {a2 : Int32} {a3 : Int32} {P : qMI → qML → Prop} (hc : wkV l G d n_X9_goesOn [.ref 292] I L R P) (kk : ∀ I' L', P I' L' → wkB l G (d + 1) n_X9_bounded Q 55 [.ref 292, .int a1, .int a2, .int a3] [] I' L' R) : wkB l G (d + 1) n_X9_bounded Q 51 [.ref 292, .int a1, .int a2, .int a3] [] I L R :=
  bb_aload_n (n := 0) (i := 0) (zd (i := .aload_n 0) (n := 1) (by decide +kernel)) rfl rfl <|
  bb_callVV (idx := 221) (k := 292) (ci := 9) (N := n_X9_goesOn) (As := []) (st := []) (zd (i := .invokevirtual 221) (n := 3) (by decide +kernel)) to_X9_goesOn g1378 g1380 g53 (Nat.le_of_ble_eq_true rfl) (by decide +kernel) (by decide +kernel) (by decide +kernel) rfl rfl rfl hc kk
theorem w_X9_bounded_55 {Q : qQ} {I : qMI} {L : qML} {R : qMR} {a1 : Int32} {a2 : Int32} {a3 : Int32} (hQ : Q (some (.int a3)) 336 I L R) : wkB l G (d + 1) n_X9_bounded Q 55 [.ref 292, .int a1, .int a2, .int a3] [] I L R :=
  bb_iload_n (n := 3) (i := 3) (zd (i := .iload_n 3) (n := 1) (by decide +kernel)) rfl rfl <|
  (fun lv hl => q_iret (zd (i := .ireturn) (n := 1) (by decide +kernel)) rfl rfl (Nat.le_refl _) (Nat.le_refl _) hQ)
theorem w_X9_emit_0 {Q : qQ} {I : qMI} {L : qML} {R : qMR} (hR : wkR R) {a1 : Int32} {a2 : Int32} (h1 : vp_in (I 292 40) 840) (h2 : vp_in ((qUp I 318 (I 292 40).toNatClampNeg a1) 292 40) 840) (hQ : Q none 336 (qUp (qUp (qUp I 318 (I 292 40).toNatClampNeg a1) 319 ((qUp I 318 (I 292 40).toNatClampNeg a1) 292 40).toNatClampNeg a2) 292 40 (((qUp (qUp I 318 (I 292 40).toNatClampNeg a1) 319 ((qUp I 318 (I 292 40).toNatClampNeg a1) 292 40).toNatClampNeg a2) 292 40) + 1)) L R) : wkB l G (d + 1) n_X9_emit Q 0 [.ref 292, .int a1, .int a2] [] I L R :=
  bb_aload_n (n := 0) (i := 0) (zd (i := .aload_n 0) (n := 1) (by decide +kernel)) rfl rfl <|
  bb_getr (k := 292) (ci := 9) (j := 41) (idx := 95) (a := 318) (zd (i := .getfield 95) (n := 3) (by decide +kernel)) (by decide +kernel) (by decide +kernel) (by decide +kernel) (by decide +kernel) rfl g1169 (hR 41 (by decide)) <|
  bb_aload_n (n := 0) (i := 0) (zd (i := .aload_n 0) (n := 1) (by decide +kernel)) rfl rfl <|
  bb_geti (k := 292) (ci := 9) (j := 40) (idx := 242) (zd (i := .getfield 242) (n := 3) (by decide +kernel)) (by decide +kernel) (by decide +kernel) (by decide +kernel) (by decide +kernel) rfl g1168 <|
  bb_iload_n (n := 1) (i := 1) (zd (i := .iload_n 1) (n := 1) (by decide +kernel)) rfl rfl <|
  bb_lift (fun _ => q_iast (k := 318) (zd (i := .iastore) (n := 1) (by decide +kernel)) (by decide +kernel) (by decide +kernel) h1) <|
  bb_aload_n (n := 0) (i := 0) (zd (i := .aload_n 0) (n := 1) (by decide +kernel)) rfl rfl <|
  bb_getr (k := 292) (ci := 9) (j := 42) (idx := 98) (a := 319) (zd (i := .getfield 98) (n := 3) (by decide +kernel)) (by decide +kernel) (by decide +kernel) (by decide +kernel) (by decide +kernel) rfl g1170 (hR 42 (by decide)) <|
  bb_aload_n (n := 0) (i := 0) (zd (i := .aload_n 0) (n := 1) (by decide +kernel)) rfl rfl <|
  bb_geti (k := 292) (ci := 9) (j := 40) (idx := 242) (zd (i := .getfield 242) (n := 3) (by decide +kernel)) (by decide +kernel) (by decide +kernel) (by decide +kernel) (by decide +kernel) rfl g1168 <|
  bb_iload_n (n := 2) (i := 2) (zd (i := .iload_n 2) (n := 1) (by decide +kernel)) rfl rfl <|
  bb_lift (fun _ => q_iast (k := 319) (zd (i := .iastore) (n := 1) (by decide +kernel)) (by decide +kernel) (by decide +kernel) h2) <|
  bb_aload_n (n := 0) (i := 0) (zd (i := .aload_n 0) (n := 1) (by decide +kernel)) rfl rfl <|
  bb_lift (fun _ => q_dup (zd (i := .dup) (n := 1) (by decide +kernel)) rfl) <|
  bb_geti (k := 292) (ci := 9) (j := 40) (idx := 242) (zd (i := .getfield 242) (n := 3) (by decide +kernel)) (by decide +kernel) (by decide +kernel) (by decide +kernel) (by decide +kernel) rfl g1168 <|
  bb_lift (fun _ => q_iconst (n := 1) (zd (i := .iconst (1)) (n := 1) (by decide +kernel)) rfl) <|
  bb_lift (fun _ => q_iadd (zd (i := .iadd) (n := 1) (by decide +kernel))) <|
  bb_puti (k := 292) (ci := 9) (j := 40) (idx := 242) (zd (i := .putfield 242) (n := 3) (by decide +kernel)) (by decide +kernel) (by decide +kernel) (by decide +kernel) (by decide +kernel) g1168 rfl rfl <|
  (fun lv hl => q_vret (zd (i := .return_) (n := 1) (by decide +kernel)) rfl (Nat.le_refl _) (Nat.le_refl _) hQ)
theorem w_X9_comesOut_0 {Q : qQ} {I : qMI} {L : qML} {R : qMR} {a1 : Int32} (kt : (I 292 44) ≤ 0 → wkB l G (d + 1) n_X9_comesOut Q 91 [.ref 292, .int a1, wkU] [] I L R) (kf : ¬ (I 292 44) ≤ 0 → wkB l G (d + 1) n_X9_comesOut Q 7 [.ref 292, .int a1, wkU] [] I L R) : wkB l G (d + 1) n_X9_comesOut Q 0 [.ref 292, .int a1, wkU] [] I L R :=
  bb_aload_n (n := 0) (i := 0) (zd (i := .aload_n 0) (n := 1) (by decide +kernel)) rfl rfl <|
  bb_geti (k := 292) (ci := 9) (j := 44) (idx := 287) (zd (i := .getfield 287) (n := 3) (by decide +kernel)) (by decide +kernel) (by decide +kernel) (by decide +kernel) (by decide +kernel) rfl g1172 <|
  (fun lv hl => q_if_le (off := 87) (tgt := 91) (zd (i := .ifCond .le (87)) (n := 3) (by decide +kernel)) (by decide) (fun h => (kt h) lv hl) (fun h => (kf h) lv hl))
theorem w_X9_comesOut_7 {Q : qQ} {I : qMI} {L : qML} {R : qMR} (hR : wkR R) {a1 : Int32} (h1 : vp_in ((I 292 44) - 1) 64) (kt : (I 320 ((I 292 44) - 1).toNatClampNeg) = 6 → wkB l G (d + 1) n_X9_comesOut Q 41 [.ref 292, .int a1, .int (I 320 ((I 292 44) - 1).toNatClampNeg)] [] I L R) (kf : ¬ (I 320 ((I 292 44) - 1).toNatClampNeg) = 6 → wkB l G (d + 1) n_X9_comesOut Q 25 [.ref 292, .int a1, .int (I 320 ((I 292 44) - 1).toNatClampNeg)] [] I L R) : wkB l G (d + 1) n_X9_comesOut Q 7 [.ref 292, .int a1, wkU] [] I L R :=
  bb_aload_n (n := 0) (i := 0) (zd (i := .aload_n 0) (n := 1) (by decide +kernel)) rfl rfl <|
  bb_getr (k := 292) (ci := 9) (j := 43) (idx := 101) (a := 320) (zd (i := .getfield 101) (n := 3) (by decide +kernel)) (by decide +kernel) (by decide +kernel) (by decide +kernel) (by decide +kernel) rfl g1171 (hR 43 (by decide)) <|
  bb_aload_n (n := 0) (i := 0) (zd (i := .aload_n 0) (n := 1) (by decide +kernel)) rfl rfl <|
  bb_geti (k := 292) (ci := 9) (j := 44) (idx := 287) (zd (i := .getfield 287) (n := 3) (by decide +kernel)) (by decide +kernel) (by decide +kernel) (by decide +kernel) (by decide +kernel) rfl g1172 <|
  bb_lift (fun _ => q_iconst (n := 1) (zd (i := .iconst (1)) (n := 1) (by decide +kernel)) rfl) <|
  bb_lift (fun _ => q_isub (zd (i := .isub) (n := 1) (by decide +kernel))) <|
  bb_lift (fun _ => q_iald (k := 320) (zd (i := .iaload) (n := 1) (by decide +kernel)) (by decide +kernel) (by decide +kernel) h1) <|
  bb_istore_n (n := 2) (i := 2) (zd (i := .istore_n 2) (n := 1) (by decide +kernel)) rfl (by decide +kernel) (wkNl_i rfl) <|
  bb_iload_n (n := 2) (i := 2) (zd (i := .iload_n 2) (n := 1) (by decide +kernel)) rfl rfl <|
  bb_lift (fun _ => q_bipush (n := 6) (zd (i := .bipush (6)) (n := 2) (by decide +kernel)) rfl) <|
  (fun lv hl => q_icmp_eq (off := 19) (tgt := 41) (zd (i := .if_icmp .eq (19)) (n := 3) (by decide +kernel)) (by decide) (fun h => (kt h) lv hl) (fun h => (kf h) lv hl))
theorem w_X9_comesOut_25 {Q : qQ} {I : qMI} {L : qML} {R : qMR} {a1 : Int32} {a2 : Int32} (kt : a1 = 0 → wkB l G (d + 1) n_X9_comesOut Q 42 [.ref 292, .int a1, .int a2] [] I L R) (kf : ¬ a1 = 0 → wkB l G (d + 1) n_X9_comesOut Q 29 [.ref 292, .int a1, .int a2] [] I L R) : wkB l G (d + 1) n_X9_comesOut Q 25 [.ref 292, .int a1, .int a2] [] I L R :=
  bb_iload_n (n := 1) (i := 1) (zd (i := .iload_n 1) (n := 1) (by decide +kernel)) rfl rfl <|
  (fun lv hl => q_if_eq (off := 16) (tgt := 42) (zd (i := .ifCond .eq (16)) (n := 3) (by decide +kernel)) (by decide) (fun h => (kt h) lv hl) (fun h => (kf h) lv hl))
theorem w_X9_comesOut_29 {Q : qQ} {I : qMI} {L : qML} {R : qMR} {a1 : Int32} {a2 : Int32} (kt : a2 = 8 → wkB l G (d + 1) n_X9_comesOut Q 41 [.ref 292, .int a1, .int a2] [] I L R) (kf : ¬ a2 = 8 → wkB l G (d + 1) n_X9_comesOut Q 35 [.ref 292, .int a1, .int a2] [] I L R) : wkB l G (d + 1) n_X9_comesOut Q 29 [.ref 292, .int a1, .int a2] [] I L R :=
  bb_iload_n (n := 2) (i := 2) (zd (i := .iload_n 2) (n := 1) (by decide +kernel)) rfl rfl <|
  bb_lift (fun _ => q_bipush (n := 8) (zd (i := .bipush (8)) (n := 2) (by decide +kernel)) rfl) <|
  (fun lv hl => q_icmp_eq (off := 9) (tgt := 41) (zd (i := .if_icmp .eq (9)) (n := 3) (by decide +kernel)) (by decide) (fun h => (kt h) lv hl) (fun h => (kf h) lv hl))
theorem w_X9_comesOut_35 {Q : qQ} {I : qMI} {L : qML} {R : qMR} {a1 : Int32} {a2 : Int32} (kt : ¬ a2 = 9 → wkB l G (d + 1) n_X9_comesOut Q 42 [.ref 292, .int a1, .int a2] [] I L R) (kf : a2 = 9 → wkB l G (d + 1) n_X9_comesOut Q 41 [.ref 292, .int a1, .int a2] [] I L R) : wkB l G (d + 1) n_X9_comesOut Q 35 [.ref 292, .int a1, .int a2] [] I L R :=
  bb_iload_n (n := 2) (i := 2) (zd (i := .iload_n 2) (n := 1) (by decide +kernel)) rfl rfl <|
  bb_lift (fun _ => q_bipush (n := 9) (zd (i := .bipush (9)) (n := 2) (by decide +kernel)) rfl) <|
  (fun lv hl => q_icmp_ne (off := 4) (tgt := 42) (zd (i := .if_icmp .ne (4)) (n := 3) (by decide +kernel)) (by decide) (fun h => (kt h) lv hl) (fun h => (kf h) lv hl))
theorem w_X9_comesOut_41 {Q : qQ} {I : qMI} {L : qML} {R : qMR} {a1 : Int32} {a2 : Int32} (hQ : Q none 336 I L R) : wkB l G (d + 1) n_X9_comesOut Q 41 [.ref 292, .int a1, .int a2] [] I L R :=
  (fun lv hl => q_vret (zd (i := .return_) (n := 1) (by decide +kernel)) rfl (Nat.le_refl _) (Nat.le_refl _) hQ)
theorem w_X9_comesOut_42 {Q : qQ} {I : qMI} {L : qML} {R : qMR} {a1 : Int32} {a2 : Int32} (kt : ¬ a2 = 8 → wkB l G (d + 1) n_X9_comesOut Q 63 [.ref 292, .int a1, .int a2] [.ref 292] (qUp I 292 44 ((I 292 44) - 1)) L R) (kf : a2 = 8 → wkB l G (d + 1) n_X9_comesOut Q 59 [.ref 292, .int a1, .int a2] [.ref 292] (qUp I 292 44 ((I 292 44) - 1)) L R) : wkB l G (d + 1) n_X9_comesOut Q 42 [.ref 292, .int a1, .int a2] [] I L R :=
  bb_aload_n (n := 0) (i := 0) (zd (i := .aload_n 0) (n := 1) (by decide +kernel)) rfl rfl <|
  bb_lift (fun _ => q_dup (zd (i := .dup) (n := 1) (by decide +kernel)) rfl) <|
  bb_geti (k := 292) (ci := 9) (j := 44) (idx := 287) (zd (i := .getfield 287) (n := 3) (by decide +kernel)) (by decide +kernel) (by decide +kernel) (by decide +kernel) (by decide +kernel) rfl g1172 <|
  bb_lift (fun _ => q_iconst (n := 1) (zd (i := .iconst (1)) (n := 1) (by decide +kernel)) rfl) <|
  bb_lift (fun _ => q_isub (zd (i := .isub) (n := 1) (by decide +kernel))) <|
  bb_puti (k := 292) (ci := 9) (j := 44) (idx := 287) (zd (i := .putfield 287) (n := 3) (by decide +kernel)) (by decide +kernel) (by decide +kernel) (by decide +kernel) (by decide +kernel) g1172 rfl rfl <|
  bb_aload_n (n := 0) (i := 0) (zd (i := .aload_n 0) (n := 1) (by decide +kernel)) rfl rfl <|
  bb_iload_n (n := 2) (i := 2) (zd (i := .iload_n 2) (n := 1) (by decide +kernel)) rfl rfl <|
  bb_lift (fun _ => q_bipush (n := 8) (zd (i := .bipush (8)) (n := 2) (by decide +kernel)) rfl) <|
  (fun lv hl => q_icmp_ne (off := 7) (tgt := 63) (zd (i := .if_icmp .ne (7)) (n := 3) (by decide +kernel)) (by decide) (fun h => (kt h) lv hl) (fun h => (kf h) lv hl))
theorem w_X9_comesOut_59 {Q : qQ} {I : qMI} {L : qML} {R : qMR} {a1 : Int32} {a2 : Int32} (k : wkB l G (d + 1) n_X9_comesOut Q 84 [.ref 292, .int a1, .int a2] [.int 2, .ref 292] I L R) : wkB l G (d + 1) n_X9_comesOut Q 59 [.ref 292, .int a1, .int a2] [.ref 292] I L R :=
  bb_lift (fun _ => q_iconst (n := 2) (zd (i := .iconst (2)) (n := 1) (by decide +kernel)) rfl) <|
  bb_lift (fun _ => q_goto (off := 24) (tgt := 84) (zd (i := .goto (24)) (n := 3) (by decide +kernel)) (by decide)) k
theorem w_X9_comesOut_63 {Q : qQ} {I : qMI} {L : qML} {R : qMR} {a1 : Int32} {a2 : Int32} (kt : ¬ a2 = 9 → wkB l G (d + 1) n_X9_comesOut Q 73 [.ref 292, .int a1, .int a2] [.ref 292] I L R) (kf : a2 = 9 → wkB l G (d + 1) n_X9_comesOut Q 69 [.ref 292, .int a1, .int a2] [.ref 292] I L R) : wkB l G (d + 1) n_X9_comesOut Q 63 [.ref 292, .int a1, .int a2] [.ref 292] I L R :=
  bb_iload_n (n := 2) (i := 2) (zd (i := .iload_n 2) (n := 1) (by decide +kernel)) rfl rfl <|
  bb_lift (fun _ => q_bipush (n := 9) (zd (i := .bipush (9)) (n := 2) (by decide +kernel)) rfl) <|
  (fun lv hl => q_icmp_ne (off := 7) (tgt := 73) (zd (i := .if_icmp .ne (7)) (n := 3) (by decide +kernel)) (by decide) (fun h => (kt h) lv hl) (fun h => (kf h) lv hl))
theorem w_X9_comesOut_69 {Q : qQ} {I : qMI} {L : qML} {R : qMR} {a1 : Int32} {a2 : Int32} (k : wkB l G (d + 1) n_X9_comesOut Q 84 [.ref 292, .int a1, .int a2] [.int 3, .ref 292] I L R) : wkB l G (d + 1) n_X9_comesOut Q 69 [.ref 292, .int a1, .int a2] [.ref 292] I L R :=
  bb_lift (fun _ => q_iconst (n := 3) (zd (i := .iconst (3)) (n := 1) (by decide +kernel)) rfl) <|
  bb_lift (fun _ => q_goto (off := 14) (tgt := 84) (zd (i := .goto (14)) (n := 3) (by decide +kernel)) (by decide)) k
theorem w_X9_comesOut_73 {Q : qQ} {I : qMI} {L : qML} {R : qMR} {a1 : Int32} {a2 : Int32} (kt : ¬ a2 = 10 → wkB l G (d + 1) n_X9_comesOut Q 83 [.ref 292, .int a1, .int a2] [.ref 292] I L R) (kf : a2 = 10 → wkB l G (d + 1) n_X9_comesOut Q 79 [.ref 292, .int a1, .int a2] [.ref 292] I L R) : wkB l G (d + 1) n_X9_comesOut Q 73 [.ref 292, .int a1, .int a2] [.ref 292] I L R :=
  bb_iload_n (n := 2) (i := 2) (zd (i := .iload_n 2) (n := 1) (by decide +kernel)) rfl rfl <|
  bb_lift (fun _ => q_bipush (n := 10) (zd (i := .bipush (10)) (n := 2) (by decide +kernel)) rfl) <|
  (fun lv hl => q_icmp_ne (off := 7) (tgt := 83) (zd (i := .if_icmp .ne (7)) (n := 3) (by decide +kernel)) (by decide) (fun h => (kt h) lv hl) (fun h => (kf h) lv hl))
theorem w_X9_comesOut_79 {Q : qQ} {I : qMI} {L : qML} {R : qMR} {a1 : Int32} {a2 : Int32} (k : wkB l G (d + 1) n_X9_comesOut Q 84 [.ref 292, .int a1, .int a2] [.int 4, .ref 292] I L R) : wkB l G (d + 1) n_X9_comesOut Q 79 [.ref 292, .int a1, .int a2] [.ref 292] I L R :=
  bb_lift (fun _ => q_iconst (n := 4) (zd (i := .iconst (4)) (n := 1) (by decide +kernel)) rfl) <|
  bb_lift (fun _ => q_goto (off := 4) (tgt := 84) (zd (i := .goto (4)) (n := 3) (by decide +kernel)) (by decide)) k
theorem w_X9_comesOut_83 {Q : qQ} {I : qMI} {L : qML} {R : qMR} {a1 : Int32} {a2 : Int32} (k : wkB l G (d + 1) n_X9_comesOut Q 84 [.ref 292, .int a1, .int a2] [.int 5, .ref 292] I L R) : wkB l G (d + 1) n_X9_comesOut Q 83 [.ref 292, .int a1, .int a2] [.ref 292] I L R :=
  bb_lift (fun _ => q_iconst (n := 5) (zd (i := .iconst (5)) (n := 1) (by decide +kernel)) rfl) <|
  k
theorem w_X9_comesOut_84 {Q : qQ} {I : qMI} {L : qML} {R : qMR} {a1 : Int32} {a2 : Int32} {s1 : Int32} {P : qMI → qML → Prop} (hc : wkV l G d n_X9_emit [.ref 292, .int s1, .int 0] I L R P) (kk : ∀ I' L', P I' L' → wkB l G (d + 1) n_X9_comesOut Q 88 [.ref 292, .int a1, .int a2] [] I' L' R) : wkB l G (d + 1) n_X9_comesOut Q 84 [.ref 292, .int a1, .int a2] [.int s1, .ref 292] I L R :=
  bb_lift (fun _ => q_iconst (n := 0) (zd (i := .iconst (0)) (n := 1) (by decide +kernel)) rfl) <|
  bb_callVV (idx := 290) (k := 292) (ci := 9) (N := n_X9_emit) (As := [.int s1, .int 0]) (st := []) (zd (i := .invokevirtual 290) (n := 3) (by decide +kernel)) to_X9_emit g1418 g1420 g63 (Nat.le_of_ble_eq_true rfl) (by decide +kernel) (by decide +kernel) (by decide +kernel) rfl rfl rfl hc kk
theorem w_X9_comesOut_88 {Q : qQ} {I : qMI} {L : qML} {R : qMR} {a1 : Int32} {a2 : Int32} (k : wkB l G (d + 1) n_X9_comesOut Q 0 [.ref 292, .int a1, wkU] [] I L R) : wkB l G (d + 1) n_X9_comesOut Q 88 [.ref 292, .int a1, .int a2] [] I L R :=
  bb_lift (fun _ => q_goto (off := -88) (tgt := 0) (zd (i := .goto (-88)) (n := 3) (by decide +kernel)) (by decide)) (wkB_le (vs := [.ref 292, .int a1, wkU]) (ws := [.ref 292, .int a1, .int a2]) ⟨Or.inr rfl, Or.inr rfl, Or.inl rfl, trivial⟩ (k))
theorem w_X9_comesOut_91 {Q : qQ} {I : qMI} {L : qML} {R : qMR} {a1 : Int32} (hQ : Q none 336 I L R) : wkB l G (d + 1) n_X9_comesOut Q 91 [.ref 292, .int a1, wkU] [] I L R :=
  (fun lv hl => q_vret (zd (i := .return_) (n := 1) (by decide +kernel)) rfl (Nat.le_refl _) (Nat.le_refl _) hQ)
theorem w_X9_unit_0 {Q : qQ} {I : qMI} {L : qML} {R : qMR}  {P : Int32 → qMI → qML → Prop} (hc : wkI l G d n_X9_is [.ref 292, .int 2] I L R P) (kk : ∀ y I' L', P y I' L' → wkB l G (d + 1) n_X9_unit Q 5 [.ref 292] [.int y] I' L' R) : wkB l G (d + 1) n_X9_unit Q 0 [.ref 292] [] I L R :=
  bb_aload_n (n := 0) (i := 0) (zd (i := .aload_n 0) (n := 1) (by decide +kernel)) rfl rfl <|
  bb_lift (fun _ => q_iconst (n := 2) (zd (i := .iconst (2)) (n := 1) (by decide +kernel)) rfl) <|
  bb_callVI (idx := 218) (k := 292) (ci := 9) (N := n_X9_is) (As := [.int 2]) (st := []) (zd (i := .invokevirtual 218) (n := 3) (by decide +kernel)) to_X9_is g1362 g1364 g49 (Nat.le_of_ble_eq_true rfl) (by decide +kernel) (by decide +kernel) (by decide +kernel) rfl rfl rfl hc kk
theorem w_X9_unit_5 {Q : qQ} {I : qMI} {L : qML} {R : qMR} {s0 : Int32} (kt : s0 = 0 → wkB l G (d + 1) n_X9_unit Q 29 [.ref 292] [] I L R) (kf : ¬ s0 = 0 → wkB l G (d + 1) n_X9_unit Q 8 [.ref 292] [] I L R) : wkB l G (d + 1) n_X9_unit Q 5 [.ref 292] [.int s0] I L R :=
  (fun lv hl => q_if_eq (off := 24) (tgt := 29) (zd (i := .ifCond .eq (24)) (n := 3) (by decide +kernel)) (by decide) (fun h => (kt h) lv hl) (fun h => (kf h) lv hl))
theorem w_X9_unit_8 {Q : qQ} {I : qMI} {L : qML} {R : qMR} (hR : wkR R)  (h1 : vp_in (I 292 11) 403) {P : qMI → qML → Prop} (hc : wkV l G d n_X9_emit [.ref 292, .int 0, .int (I 297 (I 292 11).toNatClampNeg)] I L R P) (kk : ∀ I' L', P I' L' → wkB l G (d + 1) n_X9_unit Q 22 [.ref 292] [] I' L' R) : wkB l G (d + 1) n_X9_unit Q 8 [.ref 292] [] I L R :=
  bb_aload_n (n := 0) (i := 0) (zd (i := .aload_n 0) (n := 1) (by decide +kernel)) rfl rfl <|
  bb_lift (fun _ => q_iconst (n := 0) (zd (i := .iconst (0)) (n := 1) (by decide +kernel)) rfl) <|
  bb_aload_n (n := 0) (i := 0) (zd (i := .aload_n 0) (n := 1) (by decide +kernel)) rfl rfl <|
  bb_getr (k := 292) (ci := 9) (j := 7) (idx := 27) (a := 297) (zd (i := .getfield 27) (n := 3) (by decide +kernel)) (by decide +kernel) (by decide +kernel) (by decide +kernel) (by decide +kernel) rfl g1135 (hR 7 (by decide)) <|
  bb_aload_n (n := 0) (i := 0) (zd (i := .aload_n 0) (n := 1) (by decide +kernel)) rfl rfl <|
  bb_geti (k := 292) (ci := 9) (j := 11) (idx := 203) (zd (i := .getfield 203) (n := 3) (by decide +kernel)) (by decide +kernel) (by decide +kernel) (by decide +kernel) (by decide +kernel) rfl g1139 <|
  bb_lift (fun _ => q_iald (k := 297) (zd (i := .iaload) (n := 1) (by decide +kernel)) (by decide +kernel) (by decide +kernel) h1) <|
  bb_callVV (idx := 290) (k := 292) (ci := 9) (N := n_X9_emit) (As := [.int 0, .int (I 297 (I 292 11).toNatClampNeg)]) (st := []) (zd (i := .invokevirtual 290) (n := 3) (by decide +kernel)) to_X9_emit g1418 g1420 g63 (Nat.le_of_ble_eq_true rfl) (by decide +kernel) (by decide +kernel) (by decide +kernel) rfl rfl rfl hc kk
theorem w_X9_unit_22 {Q : qQ} {I : qMI} {L : qML} {R : qMR}  {P : qMI → qML → Prop} (hc : wkV l G d n_X9_goesOn [.ref 292] I L R P) (kk : ∀ I' L', P I' L' → wkB l G (d + 1) n_X9_unit Q 26 [.ref 292] [] I' L' R) : wkB l G (d + 1) n_X9_unit Q 22 [.ref 292] [] I L R :=
  bb_aload_n (n := 0) (i := 0) (zd (i := .aload_n 0) (n := 1) (by decide +kernel)) rfl rfl <|
  bb_callVV (idx := 221) (k := 292) (ci := 9) (N := n_X9_goesOn) (As := []) (st := []) (zd (i := .invokevirtual 221) (n := 3) (by decide +kernel)) to_X9_goesOn g1378 g1380 g53 (Nat.le_of_ble_eq_true rfl) (by decide +kernel) (by decide +kernel) (by decide +kernel) rfl rfl rfl hc kk
theorem w_X9_unit_26 {Q : qQ} {I : qMI} {L : qML} {R : qMR}  (k : wkB l G (d + 1) n_X9_unit Q 93 [.ref 292] [] I L R) : wkB l G (d + 1) n_X9_unit Q 26 [.ref 292] [] I L R :=
  bb_lift (fun _ => q_goto (off := 67) (tgt := 93) (zd (i := .goto (67)) (n := 3) (by decide +kernel)) (by decide)) k
theorem w_X9_unit_29 {Q : qQ} {I : qMI} {L : qML} {R : qMR}  (kt : ¬ (I 292 13) = 0 → wkB l G (d + 1) n_X9_unit Q 88 [.ref 292] [] I L R) (kf : (I 292 13) = 0 → wkB l G (d + 1) n_X9_unit Q 36 [.ref 292] [] I L R) : wkB l G (d + 1) n_X9_unit Q 29 [.ref 292] [] I L R :=
  bb_aload_n (n := 0) (i := 0) (zd (i := .aload_n 0) (n := 1) (by decide +kernel)) rfl rfl <|
  bb_geti (k := 292) (ci := 9) (j := 13) (idx := 200) (zd (i := .getfield 200) (n := 3) (by decide +kernel)) (by decide +kernel) (by decide +kernel) (by decide +kernel) (by decide +kernel) rfl g1141 <|
  (fun lv hl => q_if_ne (off := 55) (tgt := 88) (zd (i := .ifCond .ne (55)) (n := 3) (by decide +kernel)) (by decide) (fun h => (kt h) lv hl) (fun h => (kf h) lv hl))
theorem w_X9_unit_36 {Q : qQ} {I : qMI} {L : qML} {R : qMR} (hR : wkR R)  (h1 : vp_in (I 292 11) 403) (kt : (I 295 (I 292 11).toNatClampNeg) < 34 → wkB l G (d + 1) n_X9_unit Q 88 [.ref 292] [] I L R) (kf : ¬ (I 295 (I 292 11).toNatClampNeg) < 34 → wkB l G (d + 1) n_X9_unit Q 50 [.ref 292] [] I L R) : wkB l G (d + 1) n_X9_unit Q 36 [.ref 292] [] I L R :=
  bb_aload_n (n := 0) (i := 0) (zd (i := .aload_n 0) (n := 1) (by decide +kernel)) rfl rfl <|
  bb_getr (k := 292) (ci := 9) (j := 5) (idx := 20) (a := 295) (zd (i := .getfield 20) (n := 3) (by decide +kernel)) (by decide +kernel) (by decide +kernel) (by decide +kernel) (by decide +kernel) rfl g1133 (hR 5 (by decide)) <|
  bb_aload_n (n := 0) (i := 0) (zd (i := .aload_n 0) (n := 1) (by decide +kernel)) rfl rfl <|
  bb_geti (k := 292) (ci := 9) (j := 11) (idx := 203) (zd (i := .getfield 203) (n := 3) (by decide +kernel)) (by decide +kernel) (by decide +kernel) (by decide +kernel) (by decide +kernel) rfl g1139 <|
  bb_lift (fun _ => q_iald (k := 295) (zd (i := .iaload) (n := 1) (by decide +kernel)) (by decide +kernel) (by decide +kernel) h1) <|
  bb_lift (fun _ => q_bipush (n := 34) (zd (i := .bipush (34)) (n := 2) (by decide +kernel)) rfl) <|
  (fun lv hl => q_icmp_lt (off := 41) (tgt := 88) (zd (i := .if_icmp .lt (41)) (n := 3) (by decide +kernel)) (by decide) (fun h => (kt h) lv hl) (fun h => (kf h) lv hl))
theorem w_X9_unit_50 {Q : qQ} {I : qMI} {L : qML} {R : qMR} (hR : wkR R)  (h1 : vp_in (I 292 11) 403) (kt : 42 < (I 295 (I 292 11).toNatClampNeg) → wkB l G (d + 1) n_X9_unit Q 88 [.ref 292] [] I L R) (kf : ¬ 42 < (I 295 (I 292 11).toNatClampNeg) → wkB l G (d + 1) n_X9_unit Q 64 [.ref 292] [] I L R) : wkB l G (d + 1) n_X9_unit Q 50 [.ref 292] [] I L R :=
  bb_aload_n (n := 0) (i := 0) (zd (i := .aload_n 0) (n := 1) (by decide +kernel)) rfl rfl <|
  bb_getr (k := 292) (ci := 9) (j := 5) (idx := 20) (a := 295) (zd (i := .getfield 20) (n := 3) (by decide +kernel)) (by decide +kernel) (by decide +kernel) (by decide +kernel) (by decide +kernel) rfl g1133 (hR 5 (by decide)) <|
  bb_aload_n (n := 0) (i := 0) (zd (i := .aload_n 0) (n := 1) (by decide +kernel)) rfl rfl <|
  bb_geti (k := 292) (ci := 9) (j := 11) (idx := 203) (zd (i := .getfield 203) (n := 3) (by decide +kernel)) (by decide +kernel) (by decide +kernel) (by decide +kernel) (by decide +kernel) rfl g1139 <|
  bb_lift (fun _ => q_iald (k := 295) (zd (i := .iaload) (n := 1) (by decide +kernel)) (by decide +kernel) (by decide +kernel) h1) <|
  bb_lift (fun _ => q_bipush (n := 42) (zd (i := .bipush (42)) (n := 2) (by decide +kernel)) rfl) <|
  (fun lv hl => q_icmp_gt (off := 27) (tgt := 88) (zd (i := .if_icmp .gt (27)) (n := 3) (by decide +kernel)) (by decide) (fun h => (kt h) lv hl) (fun h => (kf h) lv hl))
theorem w_X9_unit_64 {Q : qQ} {I : qMI} {L : qML} {R : qMR} (hR : wkR R)  (h1 : vp_in (I 292 11) 403) {P : qMI → qML → Prop} (hc : wkV l G d n_X9_emit [.ref 292, .int 1, .int ((I 295 (I 292 11).toNatClampNeg) - 34)] I L R P) (kk : ∀ I' L', P I' L' → wkB l G (d + 1) n_X9_unit Q 81 [.ref 292] [] I' L' R) : wkB l G (d + 1) n_X9_unit Q 64 [.ref 292] [] I L R :=
  bb_aload_n (n := 0) (i := 0) (zd (i := .aload_n 0) (n := 1) (by decide +kernel)) rfl rfl <|
  bb_lift (fun _ => q_iconst (n := 1) (zd (i := .iconst (1)) (n := 1) (by decide +kernel)) rfl) <|
  bb_aload_n (n := 0) (i := 0) (zd (i := .aload_n 0) (n := 1) (by decide +kernel)) rfl rfl <|
  bb_getr (k := 292) (ci := 9) (j := 5) (idx := 20) (a := 295) (zd (i := .getfield 20) (n := 3) (by decide +kernel)) (by decide +kernel) (by decide +kernel) (by decide +kernel) (by decide +kernel) rfl g1133 (hR 5 (by decide)) <|
  bb_aload_n (n := 0) (i := 0) (zd (i := .aload_n 0) (n := 1) (by decide +kernel)) rfl rfl <|
  bb_geti (k := 292) (ci := 9) (j := 11) (idx := 203) (zd (i := .getfield 203) (n := 3) (by decide +kernel)) (by decide +kernel) (by decide +kernel) (by decide +kernel) (by decide +kernel) rfl g1139 <|
  bb_lift (fun _ => q_iald (k := 295) (zd (i := .iaload) (n := 1) (by decide +kernel)) (by decide +kernel) (by decide +kernel) h1) <|
  bb_lift (fun _ => q_bipush (n := 34) (zd (i := .bipush (34)) (n := 2) (by decide +kernel)) rfl) <|
  bb_lift (fun _ => q_isub (zd (i := .isub) (n := 1) (by decide +kernel))) <|
  bb_callVV (idx := 290) (k := 292) (ci := 9) (N := n_X9_emit) (As := [.int 1, .int ((I 295 (I 292 11).toNatClampNeg) - 34)]) (st := []) (zd (i := .invokevirtual 290) (n := 3) (by decide +kernel)) to_X9_emit g1418 g1420 g63 (Nat.le_of_ble_eq_true rfl) (by decide +kernel) (by decide +kernel) (by decide +kernel) rfl rfl rfl hc kk
theorem w_X9_unit_81 {Q : qQ} {I : qMI} {L : qML} {R : qMR}  {P : qMI → qML → Prop} (hc : wkV l G d n_X9_goesOn [.ref 292] I L R P) (kk : ∀ I' L', P I' L' → wkB l G (d + 1) n_X9_unit Q 85 [.ref 292] [] I' L' R) : wkB l G (d + 1) n_X9_unit Q 81 [.ref 292] [] I L R :=
  bb_aload_n (n := 0) (i := 0) (zd (i := .aload_n 0) (n := 1) (by decide +kernel)) rfl rfl <|
  bb_callVV (idx := 221) (k := 292) (ci := 9) (N := n_X9_goesOn) (As := []) (st := []) (zd (i := .invokevirtual 221) (n := 3) (by decide +kernel)) to_X9_goesOn g1378 g1380 g53 (Nat.le_of_ble_eq_true rfl) (by decide +kernel) (by decide +kernel) (by decide +kernel) rfl rfl rfl hc kk
theorem w_X9_unit_85 {Q : qQ} {I : qMI} {L : qML} {R : qMR}  (k : wkB l G (d + 1) n_X9_unit Q 93 [.ref 292] [] I L R) : wkB l G (d + 1) n_X9_unit Q 85 [.ref 292] [] I L R :=
  bb_lift (fun _ => q_goto (off := 8) (tgt := 93) (zd (i := .goto (8)) (n := 3) (by decide +kernel)) (by decide)) k
theorem w_X9_unit_88 {Q : qQ} {I : qMI} {L : qML} {R : qMR}  {P : qMI → qML → Prop} (hc : wkV l G d n_X9_fail [.ref 292, .int 1] I L R P) (kk : ∀ I' L', P I' L' → wkB l G (d + 1) n_X9_unit Q 93 [.ref 292] [] I' L' R) : wkB l G (d + 1) n_X9_unit Q 88 [.ref 292] [] I L R :=
  bb_aload_n (n := 0) (i := 0) (zd (i := .aload_n 0) (n := 1) (by decide +kernel)) rfl rfl <|
  bb_lift (fun _ => q_iconst (n := 1) (zd (i := .iconst (1)) (n := 1) (by decide +kernel)) rfl) <|
  bb_callVV (idx := 215) (k := 292) (ci := 9) (N := n_X9_fail) (As := [.int 1]) (st := []) (zd (i := .invokevirtual 215) (n := 3) (by decide +kernel)) to_X9_fail g1374 g1376 g52 (Nat.le_of_ble_eq_true rfl) (by decide +kernel) (by decide +kernel) (by decide +kernel) rfl rfl rfl hc kk
theorem w_X9_unit_93 {Q : qQ} {I : qMI} {L : qML} {R : qMR}  (hQ : Q none 336 I L R) : wkB l G (d + 1) n_X9_unit Q 93 [.ref 292] [] I L R :=
  (fun lv hl => q_vret (zd (i := .return_) (n := 1) (by decide +kernel)) rfl (Nat.le_refl _) (Nat.le_refl _) hQ)
end
