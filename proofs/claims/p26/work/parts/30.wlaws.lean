section
variable {l : Launch} {G : qG} {d : Nat}
def n_X9_termOf : qMn := (yX9_termOf, cX9_termOf, 8, (some Jvm.ClassFile.FieldType.int), 0, 0)
theorem to_X9_termOf : qTo n_X9_termOf 2 := ⟨g1476, g110, ⟨by decide, by decide, by decide +kernel⟩, by decide⟩
def n_X9_lawTells : qMn := (yX9_lawTells, cX9_lawTells, 7, (some Jvm.ClassFile.FieldType.int), 0, 0)
theorem to_X9_lawTells : qTo n_X9_lawTells 2 := ⟨g1472, g110, ⟨by decide, by decide, by decide +kernel⟩, by decide⟩
theorem w_X9_termOf_0 {Q : qQ} {I : qMI} {L : qML} {R : qMR} {a1 : Int32} {a2 : Int32} (k : wkB l G (d + 1) n_X9_termOf Q 5 [.ref 292, .int a1, .int a2, .int 0, .int a1, wkU, wkU, wkU] [] I L R) : wkB l G (d + 1) n_X9_termOf Q 0 [.ref 292, .int a1, .int a2, wkU, wkU, wkU, wkU, wkU] [] I L R :=
  bb_lift (fun _ => q_iconst (n := 0) (zd (i := .iconst (0)) (n := 1) (by decide +kernel)) rfl) <|
  bb_istore_n (n := 3) (i := 3) (zd (i := .istore_n 3) (n := 1) (by decide +kernel)) rfl (by decide +kernel) (wkNl_i rfl) <|
  bb_iload_n (n := 1) (i := 1) (zd (i := .iload_n 1) (n := 1) (by decide +kernel)) rfl rfl <|
  bb_istore (i := 4) (zd (i := .istore 4) (n := 2) (by decide +kernel)) (by decide +kernel) (wkNl_i rfl) <|
  k
theorem w_X9_termOf_5 {Q : qQ} {I : qMI} {L : qML} {R : qMR} {a1 : Int32} {a2 : Int32} {a3 : Int32} {a4 : Int32} (kt : a2 ≤ a4 → wkB l G (d + 1) n_X9_termOf Q 165 [.ref 292, .int a1, .int a2, .int a3, .int a4, wkU, wkU, wkU] [] I L R) (kf : ¬ a2 ≤ a4 → wkB l G (d + 1) n_X9_termOf Q 11 [.ref 292, .int a1, .int a2, .int a3, .int a4, wkU, wkU, wkU] [] I L R) : wkB l G (d + 1) n_X9_termOf Q 5 [.ref 292, .int a1, .int a2, .int a3, .int a4, wkU, wkU, wkU] [] I L R :=
  bb_iload (i := 4) (zd (i := .iload 4) (n := 2) (by decide +kernel)) rfl <|
  bb_iload_n (n := 2) (i := 2) (zd (i := .iload_n 2) (n := 1) (by decide +kernel)) rfl rfl <|
  (fun lv hl => q_icmp_ge (off := 157) (tgt := 165) (zd (i := .if_icmp .ge (157)) (n := 3) (by decide +kernel)) (by decide) (fun h => (kt h) lv hl) (fun h => (kf h) lv hl))
theorem w_X9_termOf_11 {Q : qQ} {I : qMI} {L : qML} {R : qMR} (hR : wkR R) {a1 : Int32} {a2 : Int32} {a3 : Int32} {a4 : Int32} (h1 : vp_in a4 840) (kt : 2 ≤ (I 318 a4.toNatClampNeg) → wkB l G (d + 1) n_X9_termOf Q 65 [.ref 292, .int a1, .int a2, .int a3, .int a4, .int (I 318 a4.toNatClampNeg), wkU, wkU] [] I L R) (kf : ¬ 2 ≤ (I 318 a4.toNatClampNeg) → wkB l G (d + 1) n_X9_termOf Q 26 [.ref 292, .int a1, .int a2, .int a3, .int a4, .int (I 318 a4.toNatClampNeg), wkU, wkU] [] I L R) : wkB l G (d + 1) n_X9_termOf Q 11 [.ref 292, .int a1, .int a2, .int a3, .int a4, wkU, wkU, wkU] [] I L R :=
  bb_aload_n (n := 0) (i := 0) (zd (i := .aload_n 0) (n := 1) (by decide +kernel)) rfl rfl <|
  bb_getr (k := 292) (ci := 9) (j := 41) (idx := 95) (a := 318) (zd (i := .getfield 95) (n := 3) (by decide +kernel)) (by decide +kernel) (by decide +kernel) (by decide +kernel) (by decide +kernel) rfl g1169 (hR 41 (by decide)) <|
  bb_iload (i := 4) (zd (i := .iload 4) (n := 2) (by decide +kernel)) rfl <|
  bb_lift (fun _ => q_iald (k := 318) (zd (i := .iaload) (n := 1) (by decide +kernel)) (by decide +kernel) (by decide +kernel) h1) <|
  bb_istore (i := 5) (zd (i := .istore 5) (n := 2) (by decide +kernel)) (by decide +kernel) (wkNl_i rfl) <|
  bb_iload (i := 5) (zd (i := .iload 5) (n := 2) (by decide +kernel)) rfl <|
  bb_lift (fun _ => q_iconst (n := 2) (zd (i := .iconst (2)) (n := 1) (by decide +kernel)) rfl) <|
  (fun lv hl => q_icmp_ge (off := 42) (tgt := 65) (zd (i := .if_icmp .ge (42)) (n := 3) (by decide +kernel)) (by decide) (fun h => (kt h) lv hl) (fun h => (kf h) lv hl))
theorem w_X9_termOf_26 {Q : qQ} {I : qMI} {L : qML} {R : qMR} (hR : wkR R) {a1 : Int32} {a2 : Int32} {a3 : Int32} {a4 : Int32} {a5 : Int32} (kt : ¬ a5 = 0 → wkB l G (d + 1) n_X9_termOf Q 46 [.ref 292, .int a1, .int a2, .int a3, .int a4, .int a5, wkU, wkU] [.int a3, .ref 322] I L R) (kf : a5 = 0 → wkB l G (d + 1) n_X9_termOf Q 36 [.ref 292, .int a1, .int a2, .int a3, .int a4, .int a5, wkU, wkU] [.int a3, .ref 322] I L R) : wkB l G (d + 1) n_X9_termOf Q 26 [.ref 292, .int a1, .int a2, .int a3, .int a4, .int a5, wkU, wkU] [] I L R :=
  bb_aload_n (n := 0) (i := 0) (zd (i := .aload_n 0) (n := 1) (by decide +kernel)) rfl rfl <|
  bb_getr (k := 292) (ci := 9) (j := 46) (idx := 107) (a := 322) (zd (i := .getfield 107) (n := 3) (by decide +kernel)) (by decide +kernel) (by decide +kernel) (by decide +kernel) (by decide +kernel) rfl g1174 (hR 46 (by decide)) <|
  bb_iload_n (n := 3) (i := 3) (zd (i := .iload_n 3) (n := 1) (by decide +kernel)) rfl rfl <|
  bb_iload (i := 5) (zd (i := .iload 5) (n := 2) (by decide +kernel)) rfl <|
  (fun lv hl => q_if_ne (off := 13) (tgt := 46) (zd (i := .ifCond .ne (13)) (n := 3) (by decide +kernel)) (by decide) (fun h => (kt h) lv hl) (fun h => (kf h) lv hl))
theorem w_X9_termOf_36 {Q : qQ} {I : qMI} {L : qML} {R : qMR} (hR : wkR R) {a1 : Int32} {a2 : Int32} {a3 : Int32} {a4 : Int32} {a5 : Int32} {s1 : Int32} (h1 : vp_in a4 840) (k : wkB l G (d + 1) n_X9_termOf Q 58 [.ref 292, .int a1, .int a2, .int a3, .int a4, .int a5, wkU, wkU] [.int (I 319 a4.toNatClampNeg), .int s1, .ref 322] I L R) : wkB l G (d + 1) n_X9_termOf Q 36 [.ref 292, .int a1, .int a2, .int a3, .int a4, .int a5, wkU, wkU] [.int s1, .ref 322] I L R :=
  bb_aload_n (n := 0) (i := 0) (zd (i := .aload_n 0) (n := 1) (by decide +kernel)) rfl rfl <|
  bb_getr (k := 292) (ci := 9) (j := 42) (idx := 98) (a := 319) (zd (i := .getfield 98) (n := 3) (by decide +kernel)) (by decide +kernel) (by decide +kernel) (by decide +kernel) (by decide +kernel) rfl g1170 (hR 42 (by decide)) <|
  bb_iload (i := 4) (zd (i := .iload 4) (n := 2) (by decide +kernel)) rfl <|
  bb_lift (fun _ => q_iald (k := 319) (zd (i := .iaload) (n := 1) (by decide +kernel)) (by decide +kernel) (by decide +kernel) h1) <|
  bb_lift (fun _ => q_goto (off := 15) (tgt := 58) (zd (i := .goto (15)) (n := 3) (by decide +kernel)) (by decide)) k
theorem w_X9_termOf_46 {Q : qQ} {I : qMI} {L : qML} {R : qMR} (hR : wkR R) {a1 : Int32} {a2 : Int32} {a3 : Int32} {a4 : Int32} {a5 : Int32} {s1 : Int32} (h1 : vp_in a4 840) (h2 : vp_in (I 319 a4.toNatClampNeg) 9) (k : wkB l G (d + 1) n_X9_termOf Q 58 [.ref 292, .int a1, .int a2, .int a3, .int a4, .int a5, wkU, wkU] [.int (I 321 (I 319 a4.toNatClampNeg).toNatClampNeg), .int s1, .ref 322] I L R) : wkB l G (d + 1) n_X9_termOf Q 46 [.ref 292, .int a1, .int a2, .int a3, .int a4, .int a5, wkU, wkU] [.int s1, .ref 322] I L R :=
  bb_aload_n (n := 0) (i := 0) (zd (i := .aload_n 0) (n := 1) (by decide +kernel)) rfl rfl <|
  bb_getr (k := 292) (ci := 9) (j := 45) (idx := 104) (a := 321) (zd (i := .getfield 104) (n := 3) (by decide +kernel)) (by decide +kernel) (by decide +kernel) (by decide +kernel) (by decide +kernel) rfl g1173 (hR 45 (by decide)) <|
  bb_aload_n (n := 0) (i := 0) (zd (i := .aload_n 0) (n := 1) (by decide +kernel)) rfl rfl <|
  bb_getr (k := 292) (ci := 9) (j := 42) (idx := 98) (a := 319) (zd (i := .getfield 98) (n := 3) (by decide +kernel)) (by decide +kernel) (by decide +kernel) (by decide +kernel) (by decide +kernel) rfl g1170 (hR 42 (by decide)) <|
  bb_iload (i := 4) (zd (i := .iload 4) (n := 2) (by decide +kernel)) rfl <|
  bb_lift (fun _ => q_iald (k := 319) (zd (i := .iaload) (n := 1) (by decide +kernel)) (by decide +kernel) (by decide +kernel) h1) <|
  bb_lift (fun _ => q_iald (k := 321) (zd (i := .iaload) (n := 1) (by decide +kernel)) (by decide +kernel) (by decide +kernel) h2) <|
  k
theorem w_X9_termOf_58 {Q : qQ} {I : qMI} {L : qML} {R : qMR} {a1 : Int32} {a2 : Int32} {a3 : Int32} {a4 : Int32} {a5 : Int32} {s1 : Int32} {s2 : Int32} (h1 : vp_in s1 400) (k : wkB l G (d + 1) n_X9_termOf Q 159 [.ref 292, .int a1, .int a2, .int (a3 + 1), .int a4, .int a5, wkU, wkU] [] (qUp I 322 s1.toNatClampNeg s2) L R) : wkB l G (d + 1) n_X9_termOf Q 58 [.ref 292, .int a1, .int a2, .int a3, .int a4, .int a5, wkU, wkU] [.int s2, .int s1, .ref 322] I L R :=
  bb_lift (fun _ => q_iast (k := 322) (zd (i := .iastore) (n := 1) (by decide +kernel)) (by decide +kernel) (by decide +kernel) h1) <|
  bb_iinc (i := 3) (n := 1) (zd (i := .iinc 3 (1)) (n := 3) (by decide +kernel)) rfl rfl (by decide +kernel) (wkNl_i rfl) <|
  bb_lift (fun _ => q_goto (off := 97) (tgt := 159) (zd (i := .goto (97)) (n := 3) (by decide +kernel)) (by decide)) k
theorem w_X9_termOf_65 {Q : qQ} {I : qMI} {L : qML} {R : qMR} (hR : wkR R) {a1 : Int32} {a2 : Int32} {a3 : Int32} {a4 : Int32} {a5 : Int32} (h1 : vp_in ((a3 + (-1)) - 1) 400) (h2 : vp_in (a3 + (-1)) 400) (kt : ¬ a5 = 5 → wkB l G (d + 1) n_X9_termOf Q 104 [.ref 292, .int a1, .int a2, .int (a3 + (-1)), .int a4, .int a5, .int (I 322 ((a3 + (-1)) - 1).toNatClampNeg), .int (I 322 (a3 + (-1)).toNatClampNeg)] [] I L R) (kf : a5 = 5 → wkB l G (d + 1) n_X9_termOf Q 92 [.ref 292, .int a1, .int a2, .int (a3 + (-1)), .int a4, .int a5, .int (I 322 ((a3 + (-1)) - 1).toNatClampNeg), .int (I 322 (a3 + (-1)).toNatClampNeg)] [] I L R) : wkB l G (d + 1) n_X9_termOf Q 65 [.ref 292, .int a1, .int a2, .int a3, .int a4, .int a5, wkU, wkU] [] I L R :=
  bb_iinc (i := 3) (n := -1) (zd (i := .iinc 3 (-1)) (n := 3) (by decide +kernel)) rfl rfl (by decide +kernel) (wkNl_i rfl) <|
  bb_aload_n (n := 0) (i := 0) (zd (i := .aload_n 0) (n := 1) (by decide +kernel)) rfl rfl <|
  bb_getr (k := 292) (ci := 9) (j := 46) (idx := 107) (a := 322) (zd (i := .getfield 107) (n := 3) (by decide +kernel)) (by decide +kernel) (by decide +kernel) (by decide +kernel) (by decide +kernel) rfl g1174 (hR 46 (by decide)) <|
  bb_iload_n (n := 3) (i := 3) (zd (i := .iload_n 3) (n := 1) (by decide +kernel)) rfl rfl <|
  bb_lift (fun _ => q_iconst (n := 1) (zd (i := .iconst (1)) (n := 1) (by decide +kernel)) rfl) <|
  bb_lift (fun _ => q_isub (zd (i := .isub) (n := 1) (by decide +kernel))) <|
  bb_lift (fun _ => q_iald (k := 322) (zd (i := .iaload) (n := 1) (by decide +kernel)) (by decide +kernel) (by decide +kernel) h1) <|
  bb_istore (i := 6) (zd (i := .istore 6) (n := 2) (by decide +kernel)) (by decide +kernel) (wkNl_i rfl) <|
  bb_aload_n (n := 0) (i := 0) (zd (i := .aload_n 0) (n := 1) (by decide +kernel)) rfl rfl <|
  bb_getr (k := 292) (ci := 9) (j := 46) (idx := 107) (a := 322) (zd (i := .getfield 107) (n := 3) (by decide +kernel)) (by decide +kernel) (by decide +kernel) (by decide +kernel) (by decide +kernel) rfl g1174 (hR 46 (by decide)) <|
  bb_iload_n (n := 3) (i := 3) (zd (i := .iload_n 3) (n := 1) (by decide +kernel)) rfl rfl <|
  bb_lift (fun _ => q_iald (k := 322) (zd (i := .iaload) (n := 1) (by decide +kernel)) (by decide +kernel) (by decide +kernel) h2) <|
  bb_istore (i := 7) (zd (i := .istore 7) (n := 2) (by decide +kernel)) (by decide +kernel) (wkNl_i rfl) <|
  bb_iload (i := 5) (zd (i := .iload 5) (n := 2) (by decide +kernel)) rfl <|
  bb_lift (fun _ => q_iconst (n := 5) (zd (i := .iconst (5)) (n := 1) (by decide +kernel)) rfl) <|
  (fun lv hl => q_icmp_ne (off := 15) (tgt := 104) (zd (i := .if_icmp .ne (15)) (n := 3) (by decide +kernel)) (by decide) (fun h => (kt h) lv hl) (fun h => (kf h) lv hl))
theorem w_X9_termOf_92 {Q : qQ} {I : qMI} {L : qML} {R : qMR} {a1 : Int32} {a2 : Int32} {a3 : Int32} {a4 : Int32} {a5 : Int32} {a6 : Int32} {a7 : Int32} (kt : ¬ a7 = 0 → wkB l G (d + 1) n_X9_termOf Q 104 [.ref 292, .int a1, .int a2, .int a3, .int a4, .int a5, .int a6, .int a7] [] I L R) (kf : a7 = 0 → wkB l G (d + 1) n_X9_termOf Q 97 [.ref 292, .int a1, .int a2, .int a3, .int a4, .int a5, .int a6, .int a7] [] I L R) : wkB l G (d + 1) n_X9_termOf Q 92 [.ref 292, .int a1, .int a2, .int a3, .int a4, .int a5, .int a6, .int a7] [] I L R :=
  bb_iload (i := 7) (zd (i := .iload 7) (n := 2) (by decide +kernel)) rfl <|
  (fun lv hl => q_if_ne (off := 10) (tgt := 104) (zd (i := .ifCond .ne (10)) (n := 3) (by decide +kernel)) (by decide) (fun h => (kt h) lv hl) (fun h => (kf h) lv hl))
theorem w_X9_termOf_97 {Q : qQ} {I : qMI} {L : qML} {R : qMR} {a1 : Int32} {a2 : Int32} {a3 : Int32} {a4 : Int32} {a5 : Int32} {a6 : Int32} {a7 : Int32} (hQ : Q (some (.int 0)) 336 (qUp I 292 47 1) L R) : wkB l G (d + 1) n_X9_termOf Q 97 [.ref 292, .int a1, .int a2, .int a3, .int a4, .int a5, .int a6, .int a7] [] I L R :=
  bb_aload_n (n := 0) (i := 0) (zd (i := .aload_n 0) (n := 1) (by decide +kernel)) rfl rfl <|
  bb_lift (fun _ => q_iconst (n := 1) (zd (i := .iconst (1)) (n := 1) (by decide +kernel)) rfl) <|
  bb_putz (k := 292) (ci := 9) (j := 47) (idx := 300) (zd (i := .putfield 300) (n := 3) (by decide +kernel)) (by decide +kernel) (by decide +kernel) (by decide +kernel) (by decide +kernel) g1175 rfl rfl (Or.inr rfl) <|
  bb_lift (fun _ => q_iconst (n := 0) (zd (i := .iconst (0)) (n := 1) (by decide +kernel)) rfl) <|
  (fun lv hl => q_iret (zd (i := .ireturn) (n := 1) (by decide +kernel)) rfl rfl (Nat.le_refl _) (Nat.le_refl _) hQ)
theorem w_X9_termOf_104 {Q : qQ} {I : qMI} {L : qML} {R : qMR} (hR : wkR R) {a1 : Int32} {a2 : Int32} {a3 : Int32} {a4 : Int32} {a5 : Int32} {a6 : Int32} {a7 : Int32} (kt : ¬ a5 = 2 → wkB l G (d + 1) n_X9_termOf Q 125 [.ref 292, .int a1, .int a2, .int a3, .int a4, .int a5, .int a6, .int a7] [.int (a3 - 1), .ref 322] I L R) (kf : a5 = 2 → wkB l G (d + 1) n_X9_termOf Q 117 [.ref 292, .int a1, .int a2, .int a3, .int a4, .int a5, .int a6, .int a7] [.int (a3 - 1), .ref 322] I L R) : wkB l G (d + 1) n_X9_termOf Q 104 [.ref 292, .int a1, .int a2, .int a3, .int a4, .int a5, .int a6, .int a7] [] I L R :=
  bb_aload_n (n := 0) (i := 0) (zd (i := .aload_n 0) (n := 1) (by decide +kernel)) rfl rfl <|
  bb_getr (k := 292) (ci := 9) (j := 46) (idx := 107) (a := 322) (zd (i := .getfield 107) (n := 3) (by decide +kernel)) (by decide +kernel) (by decide +kernel) (by decide +kernel) (by decide +kernel) rfl g1174 (hR 46 (by decide)) <|
  bb_iload_n (n := 3) (i := 3) (zd (i := .iload_n 3) (n := 1) (by decide +kernel)) rfl rfl <|
  bb_lift (fun _ => q_iconst (n := 1) (zd (i := .iconst (1)) (n := 1) (by decide +kernel)) rfl) <|
  bb_lift (fun _ => q_isub (zd (i := .isub) (n := 1) (by decide +kernel))) <|
  bb_iload (i := 5) (zd (i := .iload 5) (n := 2) (by decide +kernel)) rfl <|
  bb_lift (fun _ => q_iconst (n := 2) (zd (i := .iconst (2)) (n := 1) (by decide +kernel)) rfl) <|
  (fun lv hl => q_icmp_ne (off := 11) (tgt := 125) (zd (i := .if_icmp .ne (11)) (n := 3) (by decide +kernel)) (by decide) (fun h => (kt h) lv hl) (fun h => (kf h) lv hl))
theorem w_X9_termOf_117 {Q : qQ} {I : qMI} {L : qML} {R : qMR} {a1 : Int32} {a2 : Int32} {a3 : Int32} {a4 : Int32} {a5 : Int32} {a6 : Int32} {a7 : Int32} {s1 : Int32} (k : wkB l G (d + 1) n_X9_termOf Q 158 [.ref 292, .int a1, .int a2, .int a3, .int a4, .int a5, .int a6, .int a7] [.int (a6 + a7), .int s1, .ref 322] I L R) : wkB l G (d + 1) n_X9_termOf Q 117 [.ref 292, .int a1, .int a2, .int a3, .int a4, .int a5, .int a6, .int a7] [.int s1, .ref 322] I L R :=
  bb_iload (i := 6) (zd (i := .iload 6) (n := 2) (by decide +kernel)) rfl <|
  bb_iload (i := 7) (zd (i := .iload 7) (n := 2) (by decide +kernel)) rfl <|
  bb_lift (fun _ => q_iadd (zd (i := .iadd) (n := 1) (by decide +kernel))) <|
  bb_lift (fun _ => q_goto (off := 36) (tgt := 158) (zd (i := .goto (36)) (n := 3) (by decide +kernel)) (by decide)) k
theorem w_X9_termOf_125 {Q : qQ} {I : qMI} {L : qML} {R : qMR} {a1 : Int32} {a2 : Int32} {a3 : Int32} {a4 : Int32} {a5 : Int32} {a6 : Int32} {a7 : Int32} {s1 : Int32} (kt : ¬ a5 = 3 → wkB l G (d + 1) n_X9_termOf Q 139 [.ref 292, .int a1, .int a2, .int a3, .int a4, .int a5, .int a6, .int a7] [.int s1, .ref 322] I L R) (kf : a5 = 3 → wkB l G (d + 1) n_X9_termOf Q 131 [.ref 292, .int a1, .int a2, .int a3, .int a4, .int a5, .int a6, .int a7] [.int s1, .ref 322] I L R) : wkB l G (d + 1) n_X9_termOf Q 125 [.ref 292, .int a1, .int a2, .int a3, .int a4, .int a5, .int a6, .int a7] [.int s1, .ref 322] I L R :=
  bb_iload (i := 5) (zd (i := .iload 5) (n := 2) (by decide +kernel)) rfl <|
  bb_lift (fun _ => q_iconst (n := 3) (zd (i := .iconst (3)) (n := 1) (by decide +kernel)) rfl) <|
  (fun lv hl => q_icmp_ne (off := 11) (tgt := 139) (zd (i := .if_icmp .ne (11)) (n := 3) (by decide +kernel)) (by decide) (fun h => (kt h) lv hl) (fun h => (kf h) lv hl))
theorem w_X9_termOf_131 {Q : qQ} {I : qMI} {L : qML} {R : qMR} {a1 : Int32} {a2 : Int32} {a3 : Int32} {a4 : Int32} {a5 : Int32} {a6 : Int32} {a7 : Int32} {s1 : Int32} (k : wkB l G (d + 1) n_X9_termOf Q 158 [.ref 292, .int a1, .int a2, .int a3, .int a4, .int a5, .int a6, .int a7] [.int (a6 - a7), .int s1, .ref 322] I L R) : wkB l G (d + 1) n_X9_termOf Q 131 [.ref 292, .int a1, .int a2, .int a3, .int a4, .int a5, .int a6, .int a7] [.int s1, .ref 322] I L R :=
  bb_iload (i := 6) (zd (i := .iload 6) (n := 2) (by decide +kernel)) rfl <|
  bb_iload (i := 7) (zd (i := .iload 7) (n := 2) (by decide +kernel)) rfl <|
  bb_lift (fun _ => q_isub (zd (i := .isub) (n := 1) (by decide +kernel))) <|
  bb_lift (fun _ => q_goto (off := 22) (tgt := 158) (zd (i := .goto (22)) (n := 3) (by decide +kernel)) (by decide)) k
theorem w_X9_termOf_139 {Q : qQ} {I : qMI} {L : qML} {R : qMR} {a1 : Int32} {a2 : Int32} {a3 : Int32} {a4 : Int32} {a5 : Int32} {a6 : Int32} {a7 : Int32} {s1 : Int32} (kt : ¬ a5 = 4 → wkB l G (d + 1) n_X9_termOf Q 153 [.ref 292, .int a1, .int a2, .int a3, .int a4, .int a5, .int a6, .int a7] [.int s1, .ref 322] I L R) (kf : a5 = 4 → wkB l G (d + 1) n_X9_termOf Q 145 [.ref 292, .int a1, .int a2, .int a3, .int a4, .int a5, .int a6, .int a7] [.int s1, .ref 322] I L R) : wkB l G (d + 1) n_X9_termOf Q 139 [.ref 292, .int a1, .int a2, .int a3, .int a4, .int a5, .int a6, .int a7] [.int s1, .ref 322] I L R :=
  bb_iload (i := 5) (zd (i := .iload 5) (n := 2) (by decide +kernel)) rfl <|
  bb_lift (fun _ => q_iconst (n := 4) (zd (i := .iconst (4)) (n := 1) (by decide +kernel)) rfl) <|
  (fun lv hl => q_icmp_ne (off := 11) (tgt := 153) (zd (i := .if_icmp .ne (11)) (n := 3) (by decide +kernel)) (by decide) (fun h => (kt h) lv hl) (fun h => (kf h) lv hl))
theorem w_X9_termOf_145 {Q : qQ} {I : qMI} {L : qML} {R : qMR} {a1 : Int32} {a2 : Int32} {a3 : Int32} {a4 : Int32} {a5 : Int32} {a6 : Int32} {a7 : Int32} {s1 : Int32} (k : wkB l G (d + 1) n_X9_termOf Q 158 [.ref 292, .int a1, .int a2, .int a3, .int a4, .int a5, .int a6, .int a7] [.int (a6 * a7), .int s1, .ref 322] I L R) : wkB l G (d + 1) n_X9_termOf Q 145 [.ref 292, .int a1, .int a2, .int a3, .int a4, .int a5, .int a6, .int a7] [.int s1, .ref 322] I L R :=
  bb_iload (i := 6) (zd (i := .iload 6) (n := 2) (by decide +kernel)) rfl <|
  bb_iload (i := 7) (zd (i := .iload 7) (n := 2) (by decide +kernel)) rfl <|
  bb_lift (fun _ => q_imul (zd (i := .imul) (n := 1) (by decide +kernel))) <|
  bb_lift (fun _ => q_goto (off := 8) (tgt := 158) (zd (i := .goto (8)) (n := 3) (by decide +kernel)) (by decide)) k
theorem w_X9_termOf_153 {Q : qQ} {I : qMI} {L : qML} {R : qMR} {a1 : Int32} {a2 : Int32} {a3 : Int32} {a4 : Int32} {a5 : Int32} {a6 : Int32} {a7 : Int32} {s1 : Int32} (h1 : ¬ a7 = 0) (k : wkB l G (d + 1) n_X9_termOf Q 158 [.ref 292, .int a1, .int a2, .int a3, .int a4, .int a5, .int a6, .int a7] [.int (a6 / a7), .int s1, .ref 322] I L R) : wkB l G (d + 1) n_X9_termOf Q 153 [.ref 292, .int a1, .int a2, .int a3, .int a4, .int a5, .int a6, .int a7] [.int s1, .ref 322] I L R :=
  bb_iload (i := 6) (zd (i := .iload 6) (n := 2) (by decide +kernel)) rfl <|
  bb_iload (i := 7) (zd (i := .iload 7) (n := 2) (by decide +kernel)) rfl <|
  bb_lift (fun _ => q_idiv (zd (i := .idiv) (n := 1) (by decide +kernel)) h1) <|
  k
theorem w_X9_termOf_158 {Q : qQ} {I : qMI} {L : qML} {R : qMR} {a1 : Int32} {a2 : Int32} {a3 : Int32} {a4 : Int32} {a5 : Int32} {a6 : Int32} {a7 : Int32} {s1 : Int32} {s2 : Int32} (h1 : vp_in s1 400) (k : wkB l G (d + 1) n_X9_termOf Q 159 [.ref 292, .int a1, .int a2, .int a3, .int a4, .int a5, wkU, wkU] [] (qUp I 322 s1.toNatClampNeg s2) L R) : wkB l G (d + 1) n_X9_termOf Q 158 [.ref 292, .int a1, .int a2, .int a3, .int a4, .int a5, .int a6, .int a7] [.int s2, .int s1, .ref 322] I L R :=
  bb_lift (fun _ => q_iast (k := 322) (zd (i := .iastore) (n := 1) (by decide +kernel)) (by decide +kernel) (by decide +kernel) h1) <|
  (wkB_le (vs := [.ref 292, .int a1, .int a2, .int a3, .int a4, .int a5, wkU, wkU]) (ws := [.ref 292, .int a1, .int a2, .int a3, .int a4, .int a5, .int a6, .int a7]) ⟨Or.inr rfl, Or.inr rfl, Or.inr rfl, Or.inr rfl, Or.inr rfl, Or.inr rfl, Or.inl rfl, Or.inl rfl, trivial⟩ (k))
theorem w_X9_termOf_159 {Q : qQ} {I : qMI} {L : qML} {R : qMR} {a1 : Int32} {a2 : Int32} {a3 : Int32} {a4 : Int32} {a5 : Int32} (k : wkB l G (d + 1) n_X9_termOf Q 5 [.ref 292, .int a1, .int a2, .int a3, .int (a4 + 1), wkU, wkU, wkU] [] I L R) : wkB l G (d + 1) n_X9_termOf Q 159 [.ref 292, .int a1, .int a2, .int a3, .int a4, .int a5, wkU, wkU] [] I L R :=
  bb_iinc (i := 4) (n := 1) (zd (i := .iinc 4 (1)) (n := 3) (by decide +kernel)) rfl rfl (by decide +kernel) (wkNl_i rfl) <|
  bb_lift (fun _ => q_goto (off := -157) (tgt := 5) (zd (i := .goto (-157)) (n := 3) (by decide +kernel)) (by decide)) (wkB_le (vs := [.ref 292, .int a1, .int a2, .int a3, .int (a4 + 1), wkU, wkU, wkU]) (ws := [.ref 292, .int a1, .int a2, .int a3, .int (a4 + 1), .int a5, wkU, wkU]) ⟨Or.inr rfl, Or.inr rfl, Or.inr rfl, Or.inr rfl, Or.inr rfl, Or.inl rfl, Or.inr rfl, Or.inr rfl, trivial⟩ (k))
theorem w_X9_termOf_165 {Q : qQ} {I : qMI} {L : qML} {R : qMR} (hR : wkR R) {a1 : Int32} {a2 : Int32} {a3 : Int32} {a4 : Int32} (h1 : vp_in 0 400) (hQ : Q (some (.int (I 322 (0 : Int32).toNatClampNeg))) 336 I L R) : wkB l G (d + 1) n_X9_termOf Q 165 [.ref 292, .int a1, .int a2, .int a3, .int a4, wkU, wkU, wkU] [] I L R :=
  bb_aload_n (n := 0) (i := 0) (zd (i := .aload_n 0) (n := 1) (by decide +kernel)) rfl rfl <|
  bb_getr (k := 292) (ci := 9) (j := 46) (idx := 107) (a := 322) (zd (i := .getfield 107) (n := 3) (by decide +kernel)) (by decide +kernel) (by decide +kernel) (by decide +kernel) (by decide +kernel) rfl g1174 (hR 46 (by decide)) <|
  bb_lift (fun _ => q_iconst (n := 0) (zd (i := .iconst (0)) (n := 1) (by decide +kernel)) rfl) <|
  bb_lift (fun _ => q_iald (k := 322) (zd (i := .iaload) (n := 1) (by decide +kernel)) (by decide +kernel) (by decide +kernel) h1) <|
  (fun lv hl => q_iret (zd (i := .ireturn) (n := 1) (by decide +kernel)) rfl rfl (Nat.le_refl _) (Nat.le_refl _) hQ)
theorem w_X9_lawTells_0 {Q : qQ} {I : qMI} {L : qML} {R : qMR} (hR : wkR R) {a1 : Int32} {a2 : Int32} (h1 : vp_in ((5 * (I 292 18)) + a1) 10) (h2 : vp_in ((5 * (I 292 18)) + a1) 10) (kt : ¬ (I 311 ((5 * (I 292 18)) + a1).toNatClampNeg) = (I 312 ((5 * (I 292 18)) + a1).toNatClampNeg) → wkB l G (d + 1) n_X9_lawTells Q 26 [.ref 292, .int a1, .int a2, .int ((5 * (I 292 18)) + a1), wkU, wkU, wkU] [] I L R) (kf : (I 311 ((5 * (I 292 18)) + a1).toNatClampNeg) = (I 312 ((5 * (I 292 18)) + a1).toNatClampNeg) → wkB l G (d + 1) n_X9_lawTells Q 24 [.ref 292, .int a1, .int a2, .int ((5 * (I 292 18)) + a1), wkU, wkU, wkU] [] I L R) : wkB l G (d + 1) n_X9_lawTells Q 0 [.ref 292, .int a1, .int a2, wkU, wkU, wkU, wkU] [] I L R :=
  bb_lift (fun _ => q_iconst (n := 5) (zd (i := .iconst (5)) (n := 1) (by decide +kernel)) rfl) <|
  bb_aload_n (n := 0) (i := 0) (zd (i := .aload_n 0) (n := 1) (by decide +kernel)) rfl rfl <|
  bb_geti (k := 292) (ci := 9) (j := 18) (idx := 230) (zd (i := .getfield 230) (n := 3) (by decide +kernel)) (by decide +kernel) (by decide +kernel) (by decide +kernel) (by decide +kernel) rfl g1146 <|
  bb_lift (fun _ => q_imul (zd (i := .imul) (n := 1) (by decide +kernel))) <|
  bb_iload_n (n := 1) (i := 1) (zd (i := .iload_n 1) (n := 1) (by decide +kernel)) rfl rfl <|
  bb_lift (fun _ => q_iadd (zd (i := .iadd) (n := 1) (by decide +kernel))) <|
  bb_istore_n (n := 3) (i := 3) (zd (i := .istore_n 3) (n := 1) (by decide +kernel)) rfl (by decide +kernel) (wkNl_i rfl) <|
  bb_aload_n (n := 0) (i := 0) (zd (i := .aload_n 0) (n := 1) (by decide +kernel)) rfl rfl <|
  bb_getr (k := 292) (ci := 9) (j := 32) (idx := 73) (a := 311) (zd (i := .getfield 73) (n := 3) (by decide +kernel)) (by decide +kernel) (by decide +kernel) (by decide +kernel) (by decide +kernel) rfl g1160 (hR 32 (by decide)) <|
  bb_iload_n (n := 3) (i := 3) (zd (i := .iload_n 3) (n := 1) (by decide +kernel)) rfl rfl <|
  bb_lift (fun _ => q_iald (k := 311) (zd (i := .iaload) (n := 1) (by decide +kernel)) (by decide +kernel) (by decide +kernel) h1) <|
  bb_aload_n (n := 0) (i := 0) (zd (i := .aload_n 0) (n := 1) (by decide +kernel)) rfl rfl <|
  bb_getr (k := 292) (ci := 9) (j := 33) (idx := 76) (a := 312) (zd (i := .getfield 76) (n := 3) (by decide +kernel)) (by decide +kernel) (by decide +kernel) (by decide +kernel) (by decide +kernel) rfl g1161 (hR 33 (by decide)) <|
  bb_iload_n (n := 3) (i := 3) (zd (i := .iload_n 3) (n := 1) (by decide +kernel)) rfl rfl <|
  bb_lift (fun _ => q_iald (k := 312) (zd (i := .iaload) (n := 1) (by decide +kernel)) (by decide +kernel) (by decide +kernel) h2) <|
  (fun lv hl => q_icmp_ne (off := 5) (tgt := 26) (zd (i := .if_icmp .ne (5)) (n := 3) (by decide +kernel)) (by decide) (fun h => (kt h) lv hl) (fun h => (kf h) lv hl))
theorem w_X9_lawTells_24 {Q : qQ} {I : qMI} {L : qML} {R : qMR} {a1 : Int32} {a2 : Int32} {a3 : Int32} (hQ : Q (some (.int a2)) 336 I L R) : wkB l G (d + 1) n_X9_lawTells Q 24 [.ref 292, .int a1, .int a2, .int a3, wkU, wkU, wkU] [] I L R :=
  bb_iload_n (n := 2) (i := 2) (zd (i := .iload_n 2) (n := 1) (by decide +kernel)) rfl rfl <|
  (fun lv hl => q_iret (zd (i := .ireturn) (n := 1) (by decide +kernel)) rfl rfl (Nat.le_refl _) (Nat.le_refl _) hQ)
theorem w_X9_lawTells_26 {Q : qQ} {I : qMI} {L : qML} {R : qMR} (hR : wkR R) {a1 : Int32} {a2 : Int32} {a3 : Int32} (h1 : vp_in a3 10) (k : wkB l G (d + 1) n_X9_lawTells Q 39 [.ref 292, .int a1, .int a2, .int a3, .int ((qUp I 292 47 0) 311 a3.toNatClampNeg), wkU, wkU] [] (qUp I 292 47 0) L R) : wkB l G (d + 1) n_X9_lawTells Q 26 [.ref 292, .int a1, .int a2, .int a3, wkU, wkU, wkU] [] I L R :=
  bb_aload_n (n := 0) (i := 0) (zd (i := .aload_n 0) (n := 1) (by decide +kernel)) rfl rfl <|
  bb_lift (fun _ => q_iconst (n := 0) (zd (i := .iconst (0)) (n := 1) (by decide +kernel)) rfl) <|
  bb_putz (k := 292) (ci := 9) (j := 47) (idx := 300) (zd (i := .putfield 300) (n := 3) (by decide +kernel)) (by decide +kernel) (by decide +kernel) (by decide +kernel) (by decide +kernel) g1175 rfl rfl (Or.inl rfl) <|
  bb_aload_n (n := 0) (i := 0) (zd (i := .aload_n 0) (n := 1) (by decide +kernel)) rfl rfl <|
  bb_getr (k := 292) (ci := 9) (j := 32) (idx := 73) (a := 311) (zd (i := .getfield 73) (n := 3) (by decide +kernel)) (by decide +kernel) (by decide +kernel) (by decide +kernel) (by decide +kernel) rfl g1160 (hR 32 (by decide)) <|
  bb_iload_n (n := 3) (i := 3) (zd (i := .iload_n 3) (n := 1) (by decide +kernel)) rfl rfl <|
  bb_lift (fun _ => q_iald (k := 311) (zd (i := .iaload) (n := 1) (by decide +kernel)) (by decide +kernel) (by decide +kernel) h1) <|
  bb_istore (i := 4) (zd (i := .istore 4) (n := 2) (by decide +kernel)) (by decide +kernel) (wkNl_i rfl) <|
  k
theorem w_X9_lawTells_39 {Q : qQ} {I : qMI} {L : qML} {R : qMR} (hR : wkR R) {a1 : Int32} {a2 : Int32} {a3 : Int32} {a4 : Int32} (h1 : vp_in a3 10) (kt : (I 312 a3.toNatClampNeg) ≤ a4 → wkB l G (d + 1) n_X9_lawTells Q 159 [.ref 292, .int a1, .int a2, .int a3, .int a4, wkU, wkU] [] I L R) (kf : ¬ (I 312 a3.toNatClampNeg) ≤ a4 → wkB l G (d + 1) n_X9_lawTells Q 50 [.ref 292, .int a1, .int a2, .int a3, .int a4, wkU, wkU] [] I L R) : wkB l G (d + 1) n_X9_lawTells Q 39 [.ref 292, .int a1, .int a2, .int a3, .int a4, wkU, wkU] [] I L R :=
  bb_iload (i := 4) (zd (i := .iload 4) (n := 2) (by decide +kernel)) rfl <|
  bb_aload_n (n := 0) (i := 0) (zd (i := .aload_n 0) (n := 1) (by decide +kernel)) rfl rfl <|
  bb_getr (k := 292) (ci := 9) (j := 33) (idx := 76) (a := 312) (zd (i := .getfield 76) (n := 3) (by decide +kernel)) (by decide +kernel) (by decide +kernel) (by decide +kernel) (by decide +kernel) rfl g1161 (hR 33 (by decide)) <|
  bb_iload_n (n := 3) (i := 3) (zd (i := .iload_n 3) (n := 1) (by decide +kernel)) rfl rfl <|
  bb_lift (fun _ => q_iald (k := 312) (zd (i := .iaload) (n := 1) (by decide +kernel)) (by decide +kernel) (by decide +kernel) h1) <|
  (fun lv hl => q_icmp_ge (off := 112) (tgt := 159) (zd (i := .if_icmp .ge (112)) (n := 3) (by decide +kernel)) (by decide) (fun h => (kt h) lv hl) (fun h => (kf h) lv hl))
theorem w_X9_lawTells_50 {Q : qQ} {I : qMI} {L : qML} {R : qMR} (hR : wkR R) {a1 : Int32} {a2 : Int32} {a3 : Int32} {a4 : Int32} (h1 : vp_in a4 260) (kt : (I 313 a4.toNatClampNeg) = 0 → wkB l G (d + 1) n_X9_lawTells Q 119 [.ref 292, .int a1, .int a2, .int a3, .int a4, wkU, wkU] [] I L R) (kf : ¬ (I 313 a4.toNatClampNeg) = 0 → wkB l G (d + 1) n_X9_lawTells Q 60 [.ref 292, .int a1, .int a2, .int a3, .int a4, wkU, wkU] [] I L R) : wkB l G (d + 1) n_X9_lawTells Q 50 [.ref 292, .int a1, .int a2, .int a3, .int a4, wkU, wkU] [] I L R :=
  bb_aload_n (n := 0) (i := 0) (zd (i := .aload_n 0) (n := 1) (by decide +kernel)) rfl rfl <|
  bb_getr (k := 292) (ci := 9) (j := 35) (idx := 79) (a := 313) (zd (i := .getfield 79) (n := 3) (by decide +kernel)) (by decide +kernel) (by decide +kernel) (by decide +kernel) (by decide +kernel) rfl g1163 (hR 35 (by decide)) <|
  bb_iload (i := 4) (zd (i := .iload 4) (n := 2) (by decide +kernel)) rfl <|
  bb_lift (fun _ => q_zald (k := 313) (zd (i := .baload) (n := 1) (by decide +kernel)) (by decide +kernel) (by decide +kernel) h1) <|
  (fun lv hl => q_if_eq (off := 62) (tgt := 119) (zd (i := .ifCond .eq (62)) (n := 3) (by decide +kernel)) (by decide) (fun h => (kt h) lv hl) (fun h => (kf h) lv hl))
theorem w_X9_lawTells_60 {Q : qQ} {I : qMI} {L : qML} {R : qMR} (hR : wkR R) {a1 : Int32} {a2 : Int32} {a3 : Int32} {a4 : Int32} (h1 : vp_in a4 260) (h2 : vp_in a4 260) {P : Int32 → qMI → qML → Prop} (hc : wkI l G d n_X9_termOf [.ref 292, .int (I 314 a4.toNatClampNeg), .int (I 315 a4.toNatClampNeg)] I L R P) (kk : ∀ y I' L', P y I' L' → wkB l G (d + 1) n_X9_lawTells Q 78 [.ref 292, .int a1, .int a2, .int a3, .int a4, wkU, wkU] [.int y] I' L' R) : wkB l G (d + 1) n_X9_lawTells Q 60 [.ref 292, .int a1, .int a2, .int a3, .int a4, wkU, wkU] [] I L R :=
  bb_aload_n (n := 0) (i := 0) (zd (i := .aload_n 0) (n := 1) (by decide +kernel)) rfl rfl <|
  bb_aload_n (n := 0) (i := 0) (zd (i := .aload_n 0) (n := 1) (by decide +kernel)) rfl rfl <|
  bb_getr (k := 292) (ci := 9) (j := 36) (idx := 83) (a := 314) (zd (i := .getfield 83) (n := 3) (by decide +kernel)) (by decide +kernel) (by decide +kernel) (by decide +kernel) (by decide +kernel) rfl g1164 (hR 36 (by decide)) <|
  bb_iload (i := 4) (zd (i := .iload 4) (n := 2) (by decide +kernel)) rfl <|
  bb_lift (fun _ => q_iald (k := 314) (zd (i := .iaload) (n := 1) (by decide +kernel)) (by decide +kernel) (by decide +kernel) h1) <|
  bb_aload_n (n := 0) (i := 0) (zd (i := .aload_n 0) (n := 1) (by decide +kernel)) rfl rfl <|
  bb_getr (k := 292) (ci := 9) (j := 37) (idx := 86) (a := 315) (zd (i := .getfield 86) (n := 3) (by decide +kernel)) (by decide +kernel) (by decide +kernel) (by decide +kernel) (by decide +kernel) rfl g1165 (hR 37 (by decide)) <|
  bb_iload (i := 4) (zd (i := .iload 4) (n := 2) (by decide +kernel)) rfl <|
  bb_lift (fun _ => q_iald (k := 315) (zd (i := .iaload) (n := 1) (by decide +kernel)) (by decide +kernel) (by decide +kernel) h2) <|
  bb_callVI (idx := 315) (k := 292) (ci := 9) (N := n_X9_termOf) (As := [.int (I 314 a4.toNatClampNeg), .int (I 315 a4.toNatClampNeg)]) (st := []) (zd (i := .invokevirtual 315) (n := 3) (by decide +kernel)) to_X9_termOf g1473 g1475 g74 (Nat.le_of_ble_eq_true rfl) (by decide +kernel) (by decide +kernel) (by decide +kernel) rfl rfl rfl hc kk
theorem w_X9_lawTells_78 {Q : qQ} {I : qMI} {L : qML} {R : qMR} (hR : wkR R) {a1 : Int32} {a2 : Int32} {a3 : Int32} {a4 : Int32} {s0 : Int32} (h1 : vp_in a4 260) (h2 : vp_in a4 260) {P : Int32 → qMI → qML → Prop} (hc : wkI l G d n_X9_termOf [.ref 292, .int (I 315 a4.toNatClampNeg), .int (I 316 a4.toNatClampNeg)] I L R P) (kk : ∀ y I' L', P y I' L' → wkB l G (d + 1) n_X9_lawTells Q 98 [.ref 292, .int a1, .int a2, .int a3, .int a4, .int s0, wkU] [.int y] I' L' R) : wkB l G (d + 1) n_X9_lawTells Q 78 [.ref 292, .int a1, .int a2, .int a3, .int a4, wkU, wkU] [.int s0] I L R :=
  bb_istore (i := 5) (zd (i := .istore 5) (n := 2) (by decide +kernel)) (by decide +kernel) (wkNl_i rfl) <|
  bb_aload_n (n := 0) (i := 0) (zd (i := .aload_n 0) (n := 1) (by decide +kernel)) rfl rfl <|
  bb_aload_n (n := 0) (i := 0) (zd (i := .aload_n 0) (n := 1) (by decide +kernel)) rfl rfl <|
  bb_getr (k := 292) (ci := 9) (j := 37) (idx := 86) (a := 315) (zd (i := .getfield 86) (n := 3) (by decide +kernel)) (by decide +kernel) (by decide +kernel) (by decide +kernel) (by decide +kernel) rfl g1165 (hR 37 (by decide)) <|
  bb_iload (i := 4) (zd (i := .iload 4) (n := 2) (by decide +kernel)) rfl <|
  bb_lift (fun _ => q_iald (k := 315) (zd (i := .iaload) (n := 1) (by decide +kernel)) (by decide +kernel) (by decide +kernel) h1) <|
  bb_aload_n (n := 0) (i := 0) (zd (i := .aload_n 0) (n := 1) (by decide +kernel)) rfl rfl <|
  bb_getr (k := 292) (ci := 9) (j := 38) (idx := 89) (a := 316) (zd (i := .getfield 89) (n := 3) (by decide +kernel)) (by decide +kernel) (by decide +kernel) (by decide +kernel) (by decide +kernel) rfl g1166 (hR 38 (by decide)) <|
  bb_iload (i := 4) (zd (i := .iload 4) (n := 2) (by decide +kernel)) rfl <|
  bb_lift (fun _ => q_iald (k := 316) (zd (i := .iaload) (n := 1) (by decide +kernel)) (by decide +kernel) (by decide +kernel) h2) <|
  bb_callVI (idx := 315) (k := 292) (ci := 9) (N := n_X9_termOf) (As := [.int (I 315 a4.toNatClampNeg), .int (I 316 a4.toNatClampNeg)]) (st := []) (zd (i := .invokevirtual 315) (n := 3) (by decide +kernel)) to_X9_termOf g1473 g1475 g74 (Nat.le_of_ble_eq_true rfl) (by decide +kernel) (by decide +kernel) (by decide +kernel) rfl rfl rfl hc kk
theorem w_X9_lawTells_98 {Q : qQ} {I : qMI} {L : qML} {R : qMR} {a1 : Int32} {a2 : Int32} {a3 : Int32} {a4 : Int32} {a5 : Int32} {s0 : Int32} (kt : (I 292 47) = 0 → wkB l G (d + 1) n_X9_lawTells Q 109 [.ref 292, .int a1, .int a2, .int a3, .int a4, .int a5, .int s0] [] I L R) (kf : ¬ (I 292 47) = 0 → wkB l G (d + 1) n_X9_lawTells Q 107 [.ref 292, .int a1, .int a2, .int a3, .int a4, .int a5, .int s0] [] I L R) : wkB l G (d + 1) n_X9_lawTells Q 98 [.ref 292, .int a1, .int a2, .int a3, .int a4, .int a5, wkU] [.int s0] I L R :=
  bb_istore (i := 6) (zd (i := .istore 6) (n := 2) (by decide +kernel)) (by decide +kernel) (wkNl_i rfl) <|
  bb_aload_n (n := 0) (i := 0) (zd (i := .aload_n 0) (n := 1) (by decide +kernel)) rfl rfl <|
  bb_geti (k := 292) (ci := 9) (j := 47) (idx := 300) (zd (i := .getfield 300) (n := 3) (by decide +kernel)) (by decide +kernel) (by decide +kernel) (by decide +kernel) (by decide +kernel) rfl g1175 <|
  (fun lv hl => q_if_eq (off := 5) (tgt := 109) (zd (i := .ifCond .eq (5)) (n := 3) (by decide +kernel)) (by decide) (fun h => (kt h) lv hl) (fun h => (kf h) lv hl))
theorem w_X9_lawTells_107 {Q : qQ} {I : qMI} {L : qML} {R : qMR} {a1 : Int32} {a2 : Int32} {a3 : Int32} {a4 : Int32} {a5 : Int32} {a6 : Int32} (hQ : Q (some (.int 0)) 336 I L R) : wkB l G (d + 1) n_X9_lawTells Q 107 [.ref 292, .int a1, .int a2, .int a3, .int a4, .int a5, .int a6] [] I L R :=
  bb_lift (fun _ => q_iconst (n := 0) (zd (i := .iconst (0)) (n := 1) (by decide +kernel)) rfl) <|
  (fun lv hl => q_iret (zd (i := .ireturn) (n := 1) (by decide +kernel)) rfl rfl (Nat.le_refl _) (Nat.le_refl _) hQ)
theorem w_X9_lawTells_109 {Q : qQ} {I : qMI} {L : qML} {R : qMR} {a1 : Int32} {a2 : Int32} {a3 : Int32} {a4 : Int32} {a5 : Int32} {a6 : Int32} (kt : a5 < a6 → wkB l G (d + 1) n_X9_lawTells Q 119 [.ref 292, .int a1, .int a2, .int a3, .int a4, wkU, wkU] [] I L R) (kf : ¬ a5 < a6 → wkB l G (d + 1) n_X9_lawTells Q 116 [.ref 292, .int a1, .int a2, .int a3, .int a4, .int a5, .int a6] [] I L R) : wkB l G (d + 1) n_X9_lawTells Q 109 [.ref 292, .int a1, .int a2, .int a3, .int a4, .int a5, .int a6] [] I L R :=
  bb_iload (i := 5) (zd (i := .iload 5) (n := 2) (by decide +kernel)) rfl <|
  bb_iload (i := 6) (zd (i := .iload 6) (n := 2) (by decide +kernel)) rfl <|
  (fun lv hl => q_icmp_lt (off := 6) (tgt := 119) (zd (i := .if_icmp .lt (6)) (n := 3) (by decide +kernel)) (by decide) (fun h => ((wkB_le (vs := [.ref 292, .int a1, .int a2, .int a3, .int a4, wkU, wkU]) (ws := [.ref 292, .int a1, .int a2, .int a3, .int a4, .int a5, .int a6]) ⟨Or.inr rfl, Or.inr rfl, Or.inr rfl, Or.inr rfl, Or.inr rfl, Or.inl rfl, Or.inl rfl, trivial⟩ (kt h))) lv hl) (fun h => (kf h) lv hl))
theorem w_X9_lawTells_116 {Q : qQ} {I : qMI} {L : qML} {R : qMR} {a1 : Int32} {a2 : Int32} {a3 : Int32} {a4 : Int32} {a5 : Int32} {a6 : Int32} (k : wkB l G (d + 1) n_X9_lawTells Q 153 [.ref 292, .int a1, .int a2, .int a3, .int a4, .int a5, .int a6] [] I L R) : wkB l G (d + 1) n_X9_lawTells Q 116 [.ref 292, .int a1, .int a2, .int a3, .int a4, .int a5, .int a6] [] I L R :=
  bb_lift (fun _ => q_goto (off := 37) (tgt := 153) (zd (i := .goto (37)) (n := 3) (by decide +kernel)) (by decide)) k
theorem w_X9_lawTells_119 {Q : qQ} {I : qMI} {L : qML} {R : qMR} (hR : wkR R) {a1 : Int32} {a2 : Int32} {a3 : Int32} {a4 : Int32} (h1 : vp_in a4 260) (h2 : vp_in a4 260) {P : Int32 → qMI → qML → Prop} (hc : wkI l G d n_X9_termOf [.ref 292, .int (I 316 a4.toNatClampNeg), .int (I 317 a4.toNatClampNeg)] I L R P) (kk : ∀ y I' L', P y I' L' → wkB l G (d + 1) n_X9_lawTells Q 137 [.ref 292, .int a1, .int a2, .int a3, .int a4, wkU, wkU] [.int y] I' L' R) : wkB l G (d + 1) n_X9_lawTells Q 119 [.ref 292, .int a1, .int a2, .int a3, .int a4, wkU, wkU] [] I L R :=
  bb_aload_n (n := 0) (i := 0) (zd (i := .aload_n 0) (n := 1) (by decide +kernel)) rfl rfl <|
  bb_aload_n (n := 0) (i := 0) (zd (i := .aload_n 0) (n := 1) (by decide +kernel)) rfl rfl <|
  bb_getr (k := 292) (ci := 9) (j := 38) (idx := 89) (a := 316) (zd (i := .getfield 89) (n := 3) (by decide +kernel)) (by decide +kernel) (by decide +kernel) (by decide +kernel) (by decide +kernel) rfl g1166 (hR 38 (by decide)) <|
  bb_iload (i := 4) (zd (i := .iload 4) (n := 2) (by decide +kernel)) rfl <|
  bb_lift (fun _ => q_iald (k := 316) (zd (i := .iaload) (n := 1) (by decide +kernel)) (by decide +kernel) (by decide +kernel) h1) <|
  bb_aload_n (n := 0) (i := 0) (zd (i := .aload_n 0) (n := 1) (by decide +kernel)) rfl rfl <|
  bb_getr (k := 292) (ci := 9) (j := 39) (idx := 92) (a := 317) (zd (i := .getfield 92) (n := 3) (by decide +kernel)) (by decide +kernel) (by decide +kernel) (by decide +kernel) (by decide +kernel) rfl g1167 (hR 39 (by decide)) <|
  bb_iload (i := 4) (zd (i := .iload 4) (n := 2) (by decide +kernel)) rfl <|
  bb_lift (fun _ => q_iald (k := 317) (zd (i := .iaload) (n := 1) (by decide +kernel)) (by decide +kernel) (by decide +kernel) h2) <|
  bb_callVI (idx := 315) (k := 292) (ci := 9) (N := n_X9_termOf) (As := [.int (I 316 a4.toNatClampNeg), .int (I 317 a4.toNatClampNeg)]) (st := []) (zd (i := .invokevirtual 315) (n := 3) (by decide +kernel)) to_X9_termOf g1473 g1475 g74 (Nat.le_of_ble_eq_true rfl) (by decide +kernel) (by decide +kernel) (by decide +kernel) rfl rfl rfl hc kk
theorem w_X9_lawTells_137 {Q : qQ} {I : qMI} {L : qML} {R : qMR} {a1 : Int32} {a2 : Int32} {a3 : Int32} {a4 : Int32} {s0 : Int32} (kt : (I 292 47) = 0 → wkB l G (d + 1) n_X9_lawTells Q 150 [.ref 292, .int a1, .int a2, .int a3, .int a4, .int s0, wkU] [] I L R) (kf : ¬ (I 292 47) = 0 → wkB l G (d + 1) n_X9_lawTells Q 146 [.ref 292, .int a1, .int a2, .int a3, .int a4, .int s0, wkU] [] I L R) : wkB l G (d + 1) n_X9_lawTells Q 137 [.ref 292, .int a1, .int a2, .int a3, .int a4, wkU, wkU] [.int s0] I L R :=
  bb_istore (i := 5) (zd (i := .istore 5) (n := 2) (by decide +kernel)) (by decide +kernel) (wkNl_i rfl) <|
  bb_aload_n (n := 0) (i := 0) (zd (i := .aload_n 0) (n := 1) (by decide +kernel)) rfl rfl <|
  bb_geti (k := 292) (ci := 9) (j := 47) (idx := 300) (zd (i := .getfield 300) (n := 3) (by decide +kernel)) (by decide +kernel) (by decide +kernel) (by decide +kernel) (by decide +kernel) rfl g1175 <|
  (fun lv hl => q_if_eq (off := 7) (tgt := 150) (zd (i := .ifCond .eq (7)) (n := 3) (by decide +kernel)) (by decide) (fun h => (kt h) lv hl) (fun h => (kf h) lv hl))
theorem w_X9_lawTells_146 {Q : qQ} {I : qMI} {L : qML} {R : qMR} {a1 : Int32} {a2 : Int32} {a3 : Int32} {a4 : Int32} {a5 : Int32} (k : wkB l G (d + 1) n_X9_lawTells Q 152 [.ref 292, .int a1, .int a2, .int a3, .int a4, .int a5, wkU] [.int 0] I L R) : wkB l G (d + 1) n_X9_lawTells Q 146 [.ref 292, .int a1, .int a2, .int a3, .int a4, .int a5, wkU] [] I L R :=
  bb_lift (fun _ => q_iconst (n := 0) (zd (i := .iconst (0)) (n := 1) (by decide +kernel)) rfl) <|
  bb_lift (fun _ => q_goto (off := 5) (tgt := 152) (zd (i := .goto (5)) (n := 3) (by decide +kernel)) (by decide)) k
theorem w_X9_lawTells_150 {Q : qQ} {I : qMI} {L : qML} {R : qMR} {a1 : Int32} {a2 : Int32} {a3 : Int32} {a4 : Int32} {a5 : Int32} (k : wkB l G (d + 1) n_X9_lawTells Q 152 [.ref 292, .int a1, .int a2, .int a3, .int a4, .int a5, wkU] [.int a5] I L R) : wkB l G (d + 1) n_X9_lawTells Q 150 [.ref 292, .int a1, .int a2, .int a3, .int a4, .int a5, wkU] [] I L R :=
  bb_iload (i := 5) (zd (i := .iload 5) (n := 2) (by decide +kernel)) rfl <|
  k
theorem w_X9_lawTells_152 {Q : qQ} {I : qMI} {L : qML} {R : qMR} {a1 : Int32} {a2 : Int32} {a3 : Int32} {a4 : Int32} {a5 : Int32} {s0 : Int32} (hQ : Q (some (.int s0)) 336 I L R) : wkB l G (d + 1) n_X9_lawTells Q 152 [.ref 292, .int a1, .int a2, .int a3, .int a4, .int a5, wkU] [.int s0] I L R :=
  (fun lv hl => q_iret (zd (i := .ireturn) (n := 1) (by decide +kernel)) rfl rfl (Nat.le_refl _) (Nat.le_refl _) hQ)
theorem w_X9_lawTells_153 {Q : qQ} {I : qMI} {L : qML} {R : qMR} {a1 : Int32} {a2 : Int32} {a3 : Int32} {a4 : Int32} {a5 : Int32} {a6 : Int32} (k : wkB l G (d + 1) n_X9_lawTells Q 39 [.ref 292, .int a1, .int a2, .int a3, .int (a4 + 1), wkU, wkU] [] I L R) : wkB l G (d + 1) n_X9_lawTells Q 153 [.ref 292, .int a1, .int a2, .int a3, .int a4, .int a5, .int a6] [] I L R :=
  bb_iinc (i := 4) (n := 1) (zd (i := .iinc 4 (1)) (n := 3) (by decide +kernel)) rfl rfl (by decide +kernel) (wkNl_i rfl) <|
  bb_lift (fun _ => q_goto (off := -117) (tgt := 39) (zd (i := .goto (-117)) (n := 3) (by decide +kernel)) (by decide)) (wkB_le (vs := [.ref 292, .int a1, .int a2, .int a3, .int (a4 + 1), wkU, wkU]) (ws := [.ref 292, .int a1, .int a2, .int a3, .int (a4 + 1), .int a5, .int a6]) ⟨Or.inr rfl, Or.inr rfl, Or.inr rfl, Or.inr rfl, Or.inr rfl, Or.inl rfl, Or.inl rfl, trivial⟩ (k))
end
