section
variable {l : Launch} {G : qG} {d : Nat}
theorem w_X9_isSo_0 {Q : qQ} {I : qMI} {L : qML} {R : qMR} {a1 : Int32} {a2 : Int32} (k : wkB l G (d + 1) n_X9_isSo Q 2 [.ref 292, .int a1, .int a2, .int 0] [] I L R) : wkB l G (d + 1) n_X9_isSo Q 0 [.ref 292, .int a1, .int a2, wkU] [] I L R :=
  bb_lift (fun _ => q_iconst (n := 0) (zd (i := .iconst (0)) (n := 1) (by decide +kernel)) rfl) <|
  bb_istore_n (n := 3) (i := 3) (zd (i := .istore_n 3) (n := 1) (by decide +kernel)) rfl (by decide +kernel) (wkNl_i rfl) <|
  k
theorem w_X9_isSo_2 {Q : qQ} {I : qMI} {L : qML} {R : qMR} {a1 : Int32} {a2 : Int32} {a3 : Int32} (kt : a2 ≤ a3 → wkB l G (d + 1) n_X9_isSo Q 58 [.ref 292, .int a1, .int a2, .int a3] [] I L R) (kf : ¬ a2 ≤ a3 → wkB l G (d + 1) n_X9_isSo Q 7 [.ref 292, .int a1, .int a2, .int a3] [] I L R) : wkB l G (d + 1) n_X9_isSo Q 2 [.ref 292, .int a1, .int a2, .int a3] [] I L R :=
  bb_iload_n (n := 3) (i := 3) (zd (i := .iload_n 3) (n := 1) (by decide +kernel)) rfl rfl <|
  bb_iload_n (n := 2) (i := 2) (zd (i := .iload_n 2) (n := 1) (by decide +kernel)) rfl rfl <|
  (fun lv hl => q_icmp_ge (off := 54) (tgt := 58) (zd (i := .if_icmp .ge (54)) (n := 3) (by decide +kernel)) (by decide) (fun h => (kt h) lv hl) (fun h => (kf h) lv hl))
theorem w_X9_isSo_7 {Q : qQ} {I : qMI} {L : qML} {R : qMR} (hR : wkR R) {a1 : Int32} {a2 : Int32} {a3 : Int32} (h1 : vp_in a3 20) (h2 : vp_in 96 97) (h3 : vp_in a3 20) {P : Int32 → qMI → qML → Prop} (hc : wkI l G d n_X9_seenAt [.ref 292, .int (I 330 a3.toNatClampNeg), .int (a1 / 9), .int ((a1 - a1 / 9 * 9) + 1), .int ((I 323 (96 : Int32).toNatClampNeg) + (I 332 a3.toNatClampNeg))] I L R P) (kk : ∀ y I' L', P y I' L' → wkB l G (d + 1) n_X9_isSo Q 41 [.ref 292, .int a1, .int a2, .int a3] [.int y] I' L' R) : wkB l G (d + 1) n_X9_isSo Q 7 [.ref 292, .int a1, .int a2, .int a3] [] I L R :=
  bb_aload_n (n := 0) (i := 0) (zd (i := .aload_n 0) (n := 1) (by decide +kernel)) rfl rfl <|
  bb_aload_n (n := 0) (i := 0) (zd (i := .aload_n 0) (n := 1) (by decide +kernel)) rfl rfl <|
  bb_getr (k := 292) (ci := 9) (j := 59) (idx := 131) (a := 330) (zd (i := .getfield 131) (n := 3) (by decide +kernel)) (by decide +kernel) (by decide +kernel) (by decide +kernel) (by decide +kernel) rfl g1187 (hR 59 (by decide)) <|
  bb_iload_n (n := 3) (i := 3) (zd (i := .iload_n 3) (n := 1) (by decide +kernel)) rfl rfl <|
  bb_lift (fun _ => q_iald (k := 330) (zd (i := .iaload) (n := 1) (by decide +kernel)) (by decide +kernel) (by decide +kernel) h1) <|
  bb_iload_n (n := 1) (i := 1) (zd (i := .iload_n 1) (n := 1) (by decide +kernel)) rfl rfl <|
  bb_lift (fun _ => q_bipush (n := 9) (zd (i := .bipush (9)) (n := 2) (by decide +kernel)) rfl) <|
  bb_lift (fun _ => q_idiv (zd (i := .idiv) (n := 1) (by decide +kernel)) (by decide)) <|
  bb_iload_n (n := 1) (i := 1) (zd (i := .iload_n 1) (n := 1) (by decide +kernel)) rfl rfl <|
  bb_lift (fun _ => q_bipush (n := 9) (zd (i := .bipush (9)) (n := 2) (by decide +kernel)) rfl) <|
  bb_lift (fun _ => q_irem (zd (i := .irem) (n := 1) (by decide +kernel)) (by decide)) <|
  bb_lift (fun _ => q_iconst (n := 1) (zd (i := .iconst (1)) (n := 1) (by decide +kernel)) rfl) <|
  bb_lift (fun _ => q_iadd (zd (i := .iadd) (n := 1) (by decide +kernel))) <|
  bb_aload_n (n := 0) (i := 0) (zd (i := .aload_n 0) (n := 1) (by decide +kernel)) rfl rfl <|
  bb_getr (k := 292) (ci := 9) (j := 48) (idx := 110) (a := 323) (zd (i := .getfield 110) (n := 3) (by decide +kernel)) (by decide +kernel) (by decide +kernel) (by decide +kernel) (by decide +kernel) rfl g1176 (hR 48 (by decide)) <|
  bb_lift (fun _ => q_bipush (n := 96) (zd (i := .bipush (96)) (n := 2) (by decide +kernel)) rfl) <|
  bb_lift (fun _ => q_iald (k := 323) (zd (i := .iaload) (n := 1) (by decide +kernel)) (by decide +kernel) (by decide +kernel) h2) <|
  bb_aload_n (n := 0) (i := 0) (zd (i := .aload_n 0) (n := 1) (by decide +kernel)) rfl rfl <|
  bb_getr (k := 292) (ci := 9) (j := 61) (idx := 137) (a := 332) (zd (i := .getfield 137) (n := 3) (by decide +kernel)) (by decide +kernel) (by decide +kernel) (by decide +kernel) (by decide +kernel) rfl g1189 (hR 61 (by decide)) <|
  bb_iload_n (n := 3) (i := 3) (zd (i := .iload_n 3) (n := 1) (by decide +kernel)) rfl rfl <|
  bb_lift (fun _ => q_iald (k := 332) (zd (i := .iaload) (n := 1) (by decide +kernel)) (by decide +kernel) (by decide +kernel) h3) <|
  bb_lift (fun _ => q_iadd (zd (i := .iadd) (n := 1) (by decide +kernel))) <|
  bb_callVI (idx := 345) (k := 292) (ci := 9) (N := n_X9_seenAt) (As := [.int (I 330 a3.toNatClampNeg), .int (a1 / 9), .int ((a1 - a1 / 9 * 9) + 1), .int ((I 323 (96 : Int32).toNatClampNeg) + (I 332 a3.toNatClampNeg))]) (st := []) (zd (i := .invokevirtual 345) (n := 3) (by decide +kernel)) to_X9_seenAt g1582 g1584 g88 (Nat.le_of_ble_eq_true rfl) (by decide +kernel) (by decide +kernel) (by decide +kernel) rfl rfl rfl hc kk
theorem w_X9_isSo_41 {Q : qQ} {I : qMI} {L : qML} {R : qMR} (hR : wkR R) {a1 : Int32} {a2 : Int32} {a3 : Int32} {s0 : Int32} (h1 : vp_in a3 20) (kt : s0 = (I 331 a3.toNatClampNeg) → wkB l G (d + 1) n_X9_isSo Q 52 [.ref 292, .int a1, .int a2, .int a3] [] I L R) (kf : ¬ s0 = (I 331 a3.toNatClampNeg) → wkB l G (d + 1) n_X9_isSo Q 50 [.ref 292, .int a1, .int a2, .int a3] [] I L R) : wkB l G (d + 1) n_X9_isSo Q 41 [.ref 292, .int a1, .int a2, .int a3] [.int s0] I L R :=
  bb_aload_n (n := 0) (i := 0) (zd (i := .aload_n 0) (n := 1) (by decide +kernel)) rfl rfl <|
  bb_getr (k := 292) (ci := 9) (j := 60) (idx := 134) (a := 331) (zd (i := .getfield 134) (n := 3) (by decide +kernel)) (by decide +kernel) (by decide +kernel) (by decide +kernel) (by decide +kernel) rfl g1188 (hR 60 (by decide)) <|
  bb_iload_n (n := 3) (i := 3) (zd (i := .iload_n 3) (n := 1) (by decide +kernel)) rfl rfl <|
  bb_lift (fun _ => q_iald (k := 331) (zd (i := .iaload) (n := 1) (by decide +kernel)) (by decide +kernel) (by decide +kernel) h1) <|
  (fun lv hl => q_icmp_eq (off := 5) (tgt := 52) (zd (i := .if_icmp .eq (5)) (n := 3) (by decide +kernel)) (by decide) (fun h => (kt h) lv hl) (fun h => (kf h) lv hl))
theorem w_X9_isSo_50 {Q : qQ} {I : qMI} {L : qML} {R : qMR} {a1 : Int32} {a2 : Int32} {a3 : Int32} (hQ : Q (some (.int 0)) 336 I L R) : wkB l G (d + 1) n_X9_isSo Q 50 [.ref 292, .int a1, .int a2, .int a3] [] I L R :=
  bb_lift (fun _ => q_iconst (n := 0) (zd (i := .iconst (0)) (n := 1) (by decide +kernel)) rfl) <|
  (fun lv hl => q_iret (zd (i := .ireturn) (n := 1) (by decide +kernel)) rfl rfl (Nat.le_refl _) (Nat.le_refl _) hQ)
theorem w_X9_isSo_52 {Q : qQ} {I : qMI} {L : qML} {R : qMR} {a1 : Int32} {a2 : Int32} {a3 : Int32} (k : wkB l G (d + 1) n_X9_isSo Q 2 [.ref 292, .int a1, .int a2, .int (a3 + 1)] [] I L R) : wkB l G (d + 1) n_X9_isSo Q 52 [.ref 292, .int a1, .int a2, .int a3] [] I L R :=
  bb_iinc (i := 3) (n := 1) (zd (i := .iinc 3 (1)) (n := 3) (by decide +kernel)) rfl rfl (by decide +kernel) (wkNl_i rfl) <|
  bb_lift (fun _ => q_goto (off := -53) (tgt := 2) (zd (i := .goto (-53)) (n := 3) (by decide +kernel)) (by decide)) k
theorem w_X9_isSo_58 {Q : qQ} {I : qMI} {L : qML} {R : qMR} {a1 : Int32} {a2 : Int32} {a3 : Int32} (hQ : Q (some (.int 1)) 336 I L R) : wkB l G (d + 1) n_X9_isSo Q 58 [.ref 292, .int a1, .int a2, .int a3] [] I L R :=
  bb_lift (fun _ => q_iconst (n := 1) (zd (i := .iconst (1)) (n := 1) (by decide +kernel)) rfl) <|
  (fun lv hl => q_iret (zd (i := .ireturn) (n := 1) (by decide +kernel)) rfl rfl (Nat.le_refl _) (Nat.le_refl _) hQ)
theorem w_X9_stands_0 {Q : qQ} {I : qMI} {L : qML} {R : qMR} {a1 : Int32} {P : Int32 → qMI → qML → Prop} (hc : wkI l G d n_X9_in [.int a1, .int 0, .int (I 292 58)] I L R P) (kk : ∀ y I' L', P y I' L' → wkB l G (d + 1) n_X9_stands Q 9 [.ref 292, .int a1, wkU, wkU] [.int y] I' L' R) : wkB l G (d + 1) n_X9_stands Q 0 [.ref 292, .int a1, wkU, wkU] [] I L R :=
  bb_iload_n (n := 1) (i := 1) (zd (i := .iload_n 1) (n := 1) (by decide +kernel)) rfl rfl <|
  bb_lift (fun _ => q_iconst (n := 0) (zd (i := .iconst (0)) (n := 1) (by decide +kernel)) rfl) <|
  bb_aload_n (n := 0) (i := 0) (zd (i := .aload_n 0) (n := 1) (by decide +kernel)) rfl rfl <|
  bb_geti (k := 292) (ci := 9) (j := 58) (idx := 251) (zd (i := .getfield 251) (n := 3) (by decide +kernel)) (by decide +kernel) (by decide +kernel) (by decide +kernel) (by decide +kernel) rfl g1186 <|
  bb_callSI (idx := 304) (N := n_X9_in) (As := [.int a1, .int 0, .int (I 292 58)]) (st := []) (zd (i := .invokestatic 304) (n := 3) (by decide +kernel)) to_X9_in g1442 g1443 (Nat.le_of_ble_eq_true rfl) rfl rfl hc kk
theorem w_X9_stands_9 {Q : qQ} {I : qMI} {L : qML} {R : qMR} {a1 : Int32} {s0 : Int32} (kt : ¬ s0 = 0 → wkB l G (d + 1) n_X9_stands Q 14 [.ref 292, .int a1, wkU, wkU] [] I L R) (kf : s0 = 0 → wkB l G (d + 1) n_X9_stands Q 12 [.ref 292, .int a1, wkU, wkU] [] I L R) : wkB l G (d + 1) n_X9_stands Q 9 [.ref 292, .int a1, wkU, wkU] [.int s0] I L R :=
  (fun lv hl => q_if_ne (off := 5) (tgt := 14) (zd (i := .ifCond .ne (5)) (n := 3) (by decide +kernel)) (by decide) (fun h => (kt h) lv hl) (fun h => (kf h) lv hl))
theorem w_X9_stands_12 {Q : qQ} {I : qMI} {L : qML} {R : qMR} {a1 : Int32} (hQ : Q (some (.int (-1))) 336 I L R) : wkB l G (d + 1) n_X9_stands Q 12 [.ref 292, .int a1, wkU, wkU] [] I L R :=
  bb_lift (fun _ => q_iconst (n := -1) (zd (i := .iconst (-1)) (n := 1) (by decide +kernel)) rfl) <|
  (fun lv hl => q_iret (zd (i := .ireturn) (n := 1) (by decide +kernel)) rfl rfl (Nat.le_refl _) (Nat.le_refl _) hQ)
theorem w_X9_stands_14 {Q : qQ} {I : qMI} {L : qML} {R : qMR} {a1 : Int32} (k : wkB l G (d + 1) n_X9_stands Q 18 [.ref 292, .int a1, .int 0, .int 0] [] I L R) : wkB l G (d + 1) n_X9_stands Q 14 [.ref 292, .int a1, wkU, wkU] [] I L R :=
  bb_lift (fun _ => q_iconst (n := 0) (zd (i := .iconst (0)) (n := 1) (by decide +kernel)) rfl) <|
  bb_istore_n (n := 2) (i := 2) (zd (i := .istore_n 2) (n := 1) (by decide +kernel)) rfl (by decide +kernel) (wkNl_i rfl) <|
  bb_lift (fun _ => q_iconst (n := 0) (zd (i := .iconst (0)) (n := 1) (by decide +kernel)) rfl) <|
  bb_istore_n (n := 3) (i := 3) (zd (i := .istore_n 3) (n := 1) (by decide +kernel)) rfl (by decide +kernel) (wkNl_i rfl) <|
  k
theorem w_X9_stands_18 {Q : qQ} {I : qMI} {L : qML} {R : qMR} {a1 : Int32} {a2 : Int32} {a3 : Int32} (kt : 180 ≤ a3 → wkB l G (d + 1) n_X9_stands Q 43 [.ref 292, .int a1, .int a2, .int a3] [] I L R) (kf : ¬ 180 ≤ a3 → wkB l G (d + 1) n_X9_stands Q 25 [.ref 292, .int a1, .int a2, .int a3] [] I L R) : wkB l G (d + 1) n_X9_stands Q 18 [.ref 292, .int a1, .int a2, .int a3] [] I L R :=
  bb_iload_n (n := 3) (i := 3) (zd (i := .iload_n 3) (n := 1) (by decide +kernel)) rfl rfl <|
  bb_lift (fun _ => q_sipush (n := 180) (zd (i := .sipush (180)) (n := 3) (by decide +kernel)) rfl) <|
  (fun lv hl => q_icmp_ge (off := 21) (tgt := 43) (zd (i := .if_icmp .ge (21)) (n := 3) (by decide +kernel)) (by decide) (fun h => (kt h) lv hl) (fun h => (kf h) lv hl))
theorem w_X9_stands_25 {Q : qQ} {I : qMI} {L : qML} {R : qMR} {a1 : Int32} {a2 : Int32} {a3 : Int32} {P : Int32 → qMI → qML → Prop} (hc : wkI l G d n_X9_isSo [.ref 292, .int a3, .int a1] I L R P) (kk : ∀ y I' L', P y I' L' → wkB l G (d + 1) n_X9_stands Q 31 [.ref 292, .int a1, .int a2, .int a3] [.int y] I' L' R) : wkB l G (d + 1) n_X9_stands Q 25 [.ref 292, .int a1, .int a2, .int a3] [] I L R :=
  bb_aload_n (n := 0) (i := 0) (zd (i := .aload_n 0) (n := 1) (by decide +kernel)) rfl rfl <|
  bb_iload_n (n := 3) (i := 3) (zd (i := .iload_n 3) (n := 1) (by decide +kernel)) rfl rfl <|
  bb_iload_n (n := 1) (i := 1) (zd (i := .iload_n 1) (n := 1) (by decide +kernel)) rfl rfl <|
  bb_callVI (idx := 428) (k := 292) (ci := 9) (N := n_X9_isSo) (As := [.int a3, .int a1]) (st := []) (zd (i := .invokevirtual 428) (n := 3) (by decide +kernel)) to_X9_isSo g1685 g1687 g94 (Nat.le_of_ble_eq_true rfl) (by decide +kernel) (by decide +kernel) (by decide +kernel) rfl rfl rfl hc kk
theorem w_X9_stands_31 {Q : qQ} {I : qMI} {L : qML} {R : qMR} {a1 : Int32} {a2 : Int32} {a3 : Int32} {s0 : Int32} (kt : s0 = 0 → wkB l G (d + 1) n_X9_stands Q 37 [.ref 292, .int a1, .int a2, .int a3] [] I L R) (kf : ¬ s0 = 0 → wkB l G (d + 1) n_X9_stands Q 34 [.ref 292, .int a1, .int a2, .int a3] [] I L R) : wkB l G (d + 1) n_X9_stands Q 31 [.ref 292, .int a1, .int a2, .int a3] [.int s0] I L R :=
  (fun lv hl => q_if_eq (off := 6) (tgt := 37) (zd (i := .ifCond .eq (6)) (n := 3) (by decide +kernel)) (by decide) (fun h => (kt h) lv hl) (fun h => (kf h) lv hl))
theorem w_X9_stands_34 {Q : qQ} {I : qMI} {L : qML} {R : qMR} {a1 : Int32} {a2 : Int32} {a3 : Int32} (k : wkB l G (d + 1) n_X9_stands Q 37 [.ref 292, .int a1, .int (a2 + 1), .int a3] [] I L R) : wkB l G (d + 1) n_X9_stands Q 34 [.ref 292, .int a1, .int a2, .int a3] [] I L R :=
  bb_iinc (i := 2) (n := 1) (zd (i := .iinc 2 (1)) (n := 3) (by decide +kernel)) rfl rfl (by decide +kernel) (wkNl_i rfl) <|
  k
theorem w_X9_stands_37 {Q : qQ} {I : qMI} {L : qML} {R : qMR} {a1 : Int32} {a2 : Int32} {a3 : Int32} (k : wkB l G (d + 1) n_X9_stands Q 18 [.ref 292, .int a1, .int a2, .int (a3 + 1)] [] I L R) : wkB l G (d + 1) n_X9_stands Q 37 [.ref 292, .int a1, .int a2, .int a3] [] I L R :=
  bb_iinc (i := 3) (n := 1) (zd (i := .iinc 3 (1)) (n := 3) (by decide +kernel)) rfl rfl (by decide +kernel) (wkNl_i rfl) <|
  bb_lift (fun _ => q_goto (off := -22) (tgt := 18) (zd (i := .goto (-22)) (n := 3) (by decide +kernel)) (by decide)) k
theorem w_X9_stands_43 {Q : qQ} {I : qMI} {L : qML} {R : qMR} {a1 : Int32} {a2 : Int32} {a3 : Int32} (hQ : Q (some (.int a2)) 336 I L R) : wkB l G (d + 1) n_X9_stands Q 43 [.ref 292, .int a1, .int a2, .int a3] [] I L R :=
  bb_iload_n (n := 2) (i := 2) (zd (i := .iload_n 2) (n := 1) (by decide +kernel)) rfl rfl <|
  (fun lv hl => q_iret (zd (i := .ireturn) (n := 1) (by decide +kernel)) rfl rfl (Nat.le_refl _) (Nat.le_refl _) hQ)
theorem w_X9_sure_0 {Q : qQ} {I : qMI} {L : qML} {R : qMR} {a1 : Int32} {a2 : Int32} {P : Int32 → qMI → qML → Prop} (hc : wkI l G d n_X9_in [.int a1, .int 0, .int (I 292 58)] I L R P) (kk : ∀ y I' L', P y I' L' → wkB l G (d + 1) n_X9_sure Q 9 [.ref 292, .int a1, .int a2, wkU, wkU, wkU] [.int y] I' L' R) : wkB l G (d + 1) n_X9_sure Q 0 [.ref 292, .int a1, .int a2, wkU, wkU, wkU] [] I L R :=
  bb_iload_n (n := 1) (i := 1) (zd (i := .iload_n 1) (n := 1) (by decide +kernel)) rfl rfl <|
  bb_lift (fun _ => q_iconst (n := 0) (zd (i := .iconst (0)) (n := 1) (by decide +kernel)) rfl) <|
  bb_aload_n (n := 0) (i := 0) (zd (i := .aload_n 0) (n := 1) (by decide +kernel)) rfl rfl <|
  bb_geti (k := 292) (ci := 9) (j := 58) (idx := 251) (zd (i := .getfield 251) (n := 3) (by decide +kernel)) (by decide +kernel) (by decide +kernel) (by decide +kernel) (by decide +kernel) rfl g1186 <|
  bb_callSI (idx := 304) (N := n_X9_in) (As := [.int a1, .int 0, .int (I 292 58)]) (st := []) (zd (i := .invokestatic 304) (n := 3) (by decide +kernel)) to_X9_in g1442 g1443 (Nat.le_of_ble_eq_true rfl) rfl rfl hc kk
theorem w_X9_sure_9 {Q : qQ} {I : qMI} {L : qML} {R : qMR} {a1 : Int32} {a2 : Int32} {s0 : Int32} (kt : s0 = 0 → wkB l G (d + 1) n_X9_sure Q 21 [.ref 292, .int a1, .int a2, wkU, wkU, wkU] [] I L R) (kf : ¬ s0 = 0 → wkB l G (d + 1) n_X9_sure Q 12 [.ref 292, .int a1, .int a2, wkU, wkU, wkU] [] I L R) : wkB l G (d + 1) n_X9_sure Q 9 [.ref 292, .int a1, .int a2, wkU, wkU, wkU] [.int s0] I L R :=
  (fun lv hl => q_if_eq (off := 12) (tgt := 21) (zd (i := .ifCond .eq (12)) (n := 3) (by decide +kernel)) (by decide) (fun h => (kt h) lv hl) (fun h => (kf h) lv hl))
theorem w_X9_sure_12 {Q : qQ} {I : qMI} {L : qML} {R : qMR} {a1 : Int32} {a2 : Int32} {P : Int32 → qMI → qML → Prop} (hc : wkI l G d n_X9_in [.int a2, .int 0, .int 1] I L R P) (kk : ∀ y I' L', P y I' L' → wkB l G (d + 1) n_X9_sure Q 18 [.ref 292, .int a1, .int a2, wkU, wkU, wkU] [.int y] I' L' R) : wkB l G (d + 1) n_X9_sure Q 12 [.ref 292, .int a1, .int a2, wkU, wkU, wkU] [] I L R :=
  bb_iload_n (n := 2) (i := 2) (zd (i := .iload_n 2) (n := 1) (by decide +kernel)) rfl rfl <|
  bb_lift (fun _ => q_iconst (n := 0) (zd (i := .iconst (0)) (n := 1) (by decide +kernel)) rfl) <|
  bb_lift (fun _ => q_iconst (n := 1) (zd (i := .iconst (1)) (n := 1) (by decide +kernel)) rfl) <|
  bb_callSI (idx := 304) (N := n_X9_in) (As := [.int a2, .int 0, .int 1]) (st := []) (zd (i := .invokestatic 304) (n := 3) (by decide +kernel)) to_X9_in g1442 g1443 (Nat.le_of_ble_eq_true rfl) rfl rfl hc kk
theorem w_X9_sure_18 {Q : qQ} {I : qMI} {L : qML} {R : qMR} {a1 : Int32} {a2 : Int32} {s0 : Int32} (kt : ¬ s0 = 0 → wkB l G (d + 1) n_X9_sure Q 23 [.ref 292, .int a1, .int a2, wkU, wkU, wkU] [] I L R) (kf : s0 = 0 → wkB l G (d + 1) n_X9_sure Q 21 [.ref 292, .int a1, .int a2, wkU, wkU, wkU] [] I L R) : wkB l G (d + 1) n_X9_sure Q 18 [.ref 292, .int a1, .int a2, wkU, wkU, wkU] [.int s0] I L R :=
  (fun lv hl => q_if_ne (off := 5) (tgt := 23) (zd (i := .ifCond .ne (5)) (n := 3) (by decide +kernel)) (by decide) (fun h => (kt h) lv hl) (fun h => (kf h) lv hl))
theorem w_X9_sure_21 {Q : qQ} {I : qMI} {L : qML} {R : qMR} {a1 : Int32} {a2 : Int32} (hQ : Q (some (.int (-1))) 336 I L R) : wkB l G (d + 1) n_X9_sure Q 21 [.ref 292, .int a1, .int a2, wkU, wkU, wkU] [] I L R :=
  bb_lift (fun _ => q_iconst (n := -1) (zd (i := .iconst (-1)) (n := 1) (by decide +kernel)) rfl) <|
  (fun lv hl => q_iret (zd (i := .ireturn) (n := 1) (by decide +kernel)) rfl rfl (Nat.le_refl _) (Nat.le_refl _) hQ)
theorem w_X9_sure_23 {Q : qQ} {I : qMI} {L : qML} {R : qMR} {a1 : Int32} {a2 : Int32} (k : wkB l G (d + 1) n_X9_sure Q 29 [.ref 292, .int a1, .int a2, .int (-2), .int 0, wkU] [] I L R) : wkB l G (d + 1) n_X9_sure Q 23 [.ref 292, .int a1, .int a2, wkU, wkU, wkU] [] I L R :=
  bb_lift (fun _ => q_bipush (n := -2) (zd (i := .bipush (-2)) (n := 2) (by decide +kernel)) rfl) <|
  bb_istore_n (n := 3) (i := 3) (zd (i := .istore_n 3) (n := 1) (by decide +kernel)) rfl (by decide +kernel) (wkNl_i rfl) <|
  bb_lift (fun _ => q_iconst (n := 0) (zd (i := .iconst (0)) (n := 1) (by decide +kernel)) rfl) <|
  bb_istore (i := 4) (zd (i := .istore 4) (n := 2) (by decide +kernel)) (by decide +kernel) (wkNl_i rfl) <|
  k
theorem w_X9_sure_29 {Q : qQ} {I : qMI} {L : qML} {R : qMR} {a1 : Int32} {a2 : Int32} {a3 : Int32} {a4 : Int32} (kt : 180 ≤ a4 → wkB l G (d + 1) n_X9_sure Q 93 [.ref 292, .int a1, .int a2, .int a3, .int a4, wkU] [] I L R) (kf : ¬ 180 ≤ a4 → wkB l G (d + 1) n_X9_sure Q 37 [.ref 292, .int a1, .int a2, .int a3, .int a4, wkU] [] I L R) : wkB l G (d + 1) n_X9_sure Q 29 [.ref 292, .int a1, .int a2, .int a3, .int a4, wkU] [] I L R :=
  bb_iload (i := 4) (zd (i := .iload 4) (n := 2) (by decide +kernel)) rfl <|
  bb_lift (fun _ => q_sipush (n := 180) (zd (i := .sipush (180)) (n := 3) (by decide +kernel)) rfl) <|
  (fun lv hl => q_icmp_ge (off := 59) (tgt := 93) (zd (i := .if_icmp .ge (59)) (n := 3) (by decide +kernel)) (by decide) (fun h => (kt h) lv hl) (fun h => (kf h) lv hl))
theorem w_X9_sure_37 {Q : qQ} {I : qMI} {L : qML} {R : qMR} {a1 : Int32} {a2 : Int32} {a3 : Int32} {a4 : Int32} {P : Int32 → qMI → qML → Prop} (hc : wkI l G d n_X9_isSo [.ref 292, .int a4, .int a1] I L R P) (kk : ∀ y I' L', P y I' L' → wkB l G (d + 1) n_X9_sure Q 44 [.ref 292, .int a1, .int a2, .int a3, .int a4, wkU] [.int y] I' L' R) : wkB l G (d + 1) n_X9_sure Q 37 [.ref 292, .int a1, .int a2, .int a3, .int a4, wkU] [] I L R :=
  bb_aload_n (n := 0) (i := 0) (zd (i := .aload_n 0) (n := 1) (by decide +kernel)) rfl rfl <|
  bb_iload (i := 4) (zd (i := .iload 4) (n := 2) (by decide +kernel)) rfl <|
  bb_iload_n (n := 1) (i := 1) (zd (i := .iload_n 1) (n := 1) (by decide +kernel)) rfl rfl <|
  bb_callVI (idx := 428) (k := 292) (ci := 9) (N := n_X9_isSo) (As := [.int a4, .int a1]) (st := []) (zd (i := .invokevirtual 428) (n := 3) (by decide +kernel)) to_X9_isSo g1685 g1687 g94 (Nat.le_of_ble_eq_true rfl) (by decide +kernel) (by decide +kernel) (by decide +kernel) rfl rfl rfl hc kk
theorem w_X9_sure_44 {Q : qQ} {I : qMI} {L : qML} {R : qMR} {a1 : Int32} {a2 : Int32} {a3 : Int32} {a4 : Int32} {s0 : Int32} (kt : ¬ s0 = 0 → wkB l G (d + 1) n_X9_sure Q 50 [.ref 292, .int a1, .int a2, .int a3, .int a4, wkU] [] I L R) (kf : s0 = 0 → wkB l G (d + 1) n_X9_sure Q 47 [.ref 292, .int a1, .int a2, .int a3, .int a4, wkU] [] I L R) : wkB l G (d + 1) n_X9_sure Q 44 [.ref 292, .int a1, .int a2, .int a3, .int a4, wkU] [.int s0] I L R :=
  (fun lv hl => q_if_ne (off := 6) (tgt := 50) (zd (i := .ifCond .ne (6)) (n := 3) (by decide +kernel)) (by decide) (fun h => (kt h) lv hl) (fun h => (kf h) lv hl))
theorem w_X9_sure_47 {Q : qQ} {I : qMI} {L : qML} {R : qMR} {a1 : Int32} {a2 : Int32} {a3 : Int32} {a4 : Int32} (k : wkB l G (d + 1) n_X9_sure Q 87 [.ref 292, .int a1, .int a2, .int a3, .int a4, wkU] [] I L R) : wkB l G (d + 1) n_X9_sure Q 47 [.ref 292, .int a1, .int a2, .int a3, .int a4, wkU] [] I L R :=
  bb_lift (fun _ => q_goto (off := 40) (tgt := 87) (zd (i := .goto (40)) (n := 3) (by decide +kernel)) (by decide)) k
theorem w_X9_sure_50 {Q : qQ} {I : qMI} {L : qML} {R : qMR} {a1 : Int32} {a2 : Int32} {a3 : Int32} {a4 : Int32} (kt : ¬ a2 = 0 → wkB l G (d + 1) n_X9_sure Q 62 [.ref 292, .int a1, .int a2, .int a3, .int a4, wkU] [] I L R) (kf : a2 = 0 → wkB l G (d + 1) n_X9_sure Q 54 [.ref 292, .int a1, .int a2, .int a3, .int a4, wkU] [] I L R) : wkB l G (d + 1) n_X9_sure Q 50 [.ref 292, .int a1, .int a2, .int a3, .int a4, wkU] [] I L R :=
  bb_iload_n (n := 2) (i := 2) (zd (i := .iload_n 2) (n := 1) (by decide +kernel)) rfl rfl <|
  (fun lv hl => q_if_ne (off := 11) (tgt := 62) (zd (i := .ifCond .ne (11)) (n := 3) (by decide +kernel)) (by decide) (fun h => (kt h) lv hl) (fun h => (kf h) lv hl))
theorem w_X9_sure_54 {Q : qQ} {I : qMI} {L : qML} {R : qMR} {a1 : Int32} {a2 : Int32} {a3 : Int32} {a4 : Int32} (k : wkB l G (d + 1) n_X9_sure Q 69 [.ref 292, .int a1, .int a2, .int a3, .int a4, wkU] [.int (a4 / 9)] I L R) : wkB l G (d + 1) n_X9_sure Q 54 [.ref 292, .int a1, .int a2, .int a3, .int a4, wkU] [] I L R :=
  bb_iload (i := 4) (zd (i := .iload 4) (n := 2) (by decide +kernel)) rfl <|
  bb_lift (fun _ => q_bipush (n := 9) (zd (i := .bipush (9)) (n := 2) (by decide +kernel)) rfl) <|
  bb_lift (fun _ => q_idiv (zd (i := .idiv) (n := 1) (by decide +kernel)) (by decide)) <|
  bb_lift (fun _ => q_goto (off := 10) (tgt := 69) (zd (i := .goto (10)) (n := 3) (by decide +kernel)) (by decide)) k
theorem w_X9_sure_62 {Q : qQ} {I : qMI} {L : qML} {R : qMR} {a1 : Int32} {a2 : Int32} {a3 : Int32} {a4 : Int32} (k : wkB l G (d + 1) n_X9_sure Q 69 [.ref 292, .int a1, .int a2, .int a3, .int a4, wkU] [.int ((a4 - a4 / 9 * 9) + 1)] I L R) : wkB l G (d + 1) n_X9_sure Q 62 [.ref 292, .int a1, .int a2, .int a3, .int a4, wkU] [] I L R :=
  bb_iload (i := 4) (zd (i := .iload 4) (n := 2) (by decide +kernel)) rfl <|
  bb_lift (fun _ => q_bipush (n := 9) (zd (i := .bipush (9)) (n := 2) (by decide +kernel)) rfl) <|
  bb_lift (fun _ => q_irem (zd (i := .irem) (n := 1) (by decide +kernel)) (by decide)) <|
  bb_lift (fun _ => q_iconst (n := 1) (zd (i := .iconst (1)) (n := 1) (by decide +kernel)) rfl) <|
  bb_lift (fun _ => q_iadd (zd (i := .iadd) (n := 1) (by decide +kernel))) <|
  k
theorem w_X9_sure_69 {Q : qQ} {I : qMI} {L : qML} {R : qMR} {a1 : Int32} {a2 : Int32} {a3 : Int32} {a4 : Int32} {s0 : Int32} (kt : a3 < 0 → wkB l G (d + 1) n_X9_sure Q 84 [.ref 292, .int a1, .int a2, .int a3, .int a4, .int s0] [] I L R) (kf : ¬ a3 < 0 → wkB l G (d + 1) n_X9_sure Q 75 [.ref 292, .int a1, .int a2, .int a3, .int a4, .int s0] [] I L R) : wkB l G (d + 1) n_X9_sure Q 69 [.ref 292, .int a1, .int a2, .int a3, .int a4, wkU] [.int s0] I L R :=
  bb_istore (i := 5) (zd (i := .istore 5) (n := 2) (by decide +kernel)) (by decide +kernel) (wkNl_i rfl) <|
  bb_iload_n (n := 3) (i := 3) (zd (i := .iload_n 3) (n := 1) (by decide +kernel)) rfl rfl <|
  (fun lv hl => q_if_lt (off := 12) (tgt := 84) (zd (i := .ifCond .lt (12)) (n := 3) (by decide +kernel)) (by decide) (fun h => (kt h) lv hl) (fun h => (kf h) lv hl))
theorem w_X9_sure_75 {Q : qQ} {I : qMI} {L : qML} {R : qMR} {a1 : Int32} {a2 : Int32} {a3 : Int32} {a4 : Int32} {a5 : Int32} (kt : a3 = a5 → wkB l G (d + 1) n_X9_sure Q 84 [.ref 292, .int a1, .int a2, .int a3, .int a4, .int a5] [] I L R) (kf : ¬ a3 = a5 → wkB l G (d + 1) n_X9_sure Q 81 [.ref 292, .int a1, .int a2, .int a3, .int a4, .int a5] [] I L R) : wkB l G (d + 1) n_X9_sure Q 75 [.ref 292, .int a1, .int a2, .int a3, .int a4, .int a5] [] I L R :=
  bb_iload_n (n := 3) (i := 3) (zd (i := .iload_n 3) (n := 1) (by decide +kernel)) rfl rfl <|
  bb_iload (i := 5) (zd (i := .iload 5) (n := 2) (by decide +kernel)) rfl <|
  (fun lv hl => q_icmp_eq (off := 6) (tgt := 84) (zd (i := .if_icmp .eq (6)) (n := 3) (by decide +kernel)) (by decide) (fun h => (kt h) lv hl) (fun h => (kf h) lv hl))
theorem w_X9_sure_81 {Q : qQ} {I : qMI} {L : qML} {R : qMR} {a1 : Int32} {a2 : Int32} {a3 : Int32} {a4 : Int32} {a5 : Int32} (hQ : Q (some (.int (-2))) 336 I L R) : wkB l G (d + 1) n_X9_sure Q 81 [.ref 292, .int a1, .int a2, .int a3, .int a4, .int a5] [] I L R :=
  bb_lift (fun _ => q_bipush (n := -2) (zd (i := .bipush (-2)) (n := 2) (by decide +kernel)) rfl) <|
  (fun lv hl => q_iret (zd (i := .ireturn) (n := 1) (by decide +kernel)) rfl rfl (Nat.le_refl _) (Nat.le_refl _) hQ)
theorem w_X9_sure_84 {Q : qQ} {I : qMI} {L : qML} {R : qMR} {a1 : Int32} {a2 : Int32} {a3 : Int32} {a4 : Int32} {a5 : Int32} (k : wkB l G (d + 1) n_X9_sure Q 87 [.ref 292, .int a1, .int a2, .int a5, .int a4, wkU] [] I L R) : wkB l G (d + 1) n_X9_sure Q 84 [.ref 292, .int a1, .int a2, .int a3, .int a4, .int a5] [] I L R :=
  bb_iload (i := 5) (zd (i := .iload 5) (n := 2) (by decide +kernel)) rfl <|
  bb_istore_n (n := 3) (i := 3) (zd (i := .istore_n 3) (n := 1) (by decide +kernel)) rfl (by decide +kernel) (wkNl_i rfl) <|
  (wkB_le (vs := [.ref 292, .int a1, .int a2, .int a5, .int a4, wkU]) (ws := [.ref 292, .int a1, .int a2, .int a5, .int a4, .int a5]) ⟨Or.inr rfl, Or.inr rfl, Or.inr rfl, Or.inr rfl, Or.inr rfl, Or.inl rfl, trivial⟩ (k))
theorem w_X9_sure_87 {Q : qQ} {I : qMI} {L : qML} {R : qMR} {a1 : Int32} {a2 : Int32} {a3 : Int32} {a4 : Int32} (k : wkB l G (d + 1) n_X9_sure Q 29 [.ref 292, .int a1, .int a2, .int a3, .int (a4 + 1), wkU] [] I L R) : wkB l G (d + 1) n_X9_sure Q 87 [.ref 292, .int a1, .int a2, .int a3, .int a4, wkU] [] I L R :=
  bb_iinc (i := 4) (n := 1) (zd (i := .iinc 4 (1)) (n := 3) (by decide +kernel)) rfl rfl (by decide +kernel) (wkNl_i rfl) <|
  bb_lift (fun _ => q_goto (off := -61) (tgt := 29) (zd (i := .goto (-61)) (n := 3) (by decide +kernel)) (by decide)) k
theorem w_X9_sure_93 {Q : qQ} {I : qMI} {L : qML} {R : qMR} {a1 : Int32} {a2 : Int32} {a3 : Int32} {a4 : Int32} (hQ : Q (some (.int a3)) 336 I L R) : wkB l G (d + 1) n_X9_sure Q 93 [.ref 292, .int a1, .int a2, .int a3, .int a4, wkU] [] I L R :=
  bb_iload_n (n := 3) (i := 3) (zd (i := .iload_n 3) (n := 1) (by decide +kernel)) rfl rfl <|
  (fun lv hl => q_iret (zd (i := .ireturn) (n := 1) (by decide +kernel)) rfl rfl (Nat.le_refl _) (Nat.le_refl _) hQ)
theorem w_X9_look_0 {Q : qQ} {I : qMI} {L : qML} {R : qMR} {a1 : Int32} {a2 : Int32} {P : Int32 → qMI → qML → Prop} (hc : wkI l G d n_X9_in [.int a1, .int 0, .int (I 292 58)] I L R P) (kk : ∀ y I' L', P y I' L' → wkB l G (d + 1) n_X9_look Q 9 [.ref 292, .int a1, .int a2, wkU, wkU, wkU, wkU, wkU, wkU] [.int y] I' L' R) : wkB l G (d + 1) n_X9_look Q 0 [.ref 292, .int a1, .int a2, wkU, wkU, wkU, wkU, wkU, wkU] [] I L R :=
  bb_iload_n (n := 1) (i := 1) (zd (i := .iload_n 1) (n := 1) (by decide +kernel)) rfl rfl <|
  bb_lift (fun _ => q_iconst (n := 0) (zd (i := .iconst (0)) (n := 1) (by decide +kernel)) rfl) <|
  bb_aload_n (n := 0) (i := 0) (zd (i := .aload_n 0) (n := 1) (by decide +kernel)) rfl rfl <|
  bb_geti (k := 292) (ci := 9) (j := 58) (idx := 251) (zd (i := .getfield 251) (n := 3) (by decide +kernel)) (by decide +kernel) (by decide +kernel) (by decide +kernel) (by decide +kernel) rfl g1186 <|
  bb_callSI (idx := 304) (N := n_X9_in) (As := [.int a1, .int 0, .int (I 292 58)]) (st := []) (zd (i := .invokestatic 304) (n := 3) (by decide +kernel)) to_X9_in g1442 g1443 (Nat.le_of_ble_eq_true rfl) rfl rfl hc kk
theorem w_X9_look_9 {Q : qQ} {I : qMI} {L : qML} {R : qMR} {a1 : Int32} {a2 : Int32} {s0 : Int32} (kt : s0 = 0 → wkB l G (d + 1) n_X9_look Q 22 [.ref 292, .int a1, .int a2, wkU, wkU, wkU, wkU, wkU, wkU] [] I L R) (kf : ¬ s0 = 0 → wkB l G (d + 1) n_X9_look Q 12 [.ref 292, .int a1, .int a2, wkU, wkU, wkU, wkU, wkU, wkU] [] I L R) : wkB l G (d + 1) n_X9_look Q 9 [.ref 292, .int a1, .int a2, wkU, wkU, wkU, wkU, wkU, wkU] [.int s0] I L R :=
  (fun lv hl => q_if_eq (off := 13) (tgt := 22) (zd (i := .ifCond .eq (13)) (n := 3) (by decide +kernel)) (by decide) (fun h => (kt h) lv hl) (fun h => (kf h) lv hl))
theorem w_X9_look_12 {Q : qQ} {I : qMI} {L : qML} {R : qMR} {a1 : Int32} {a2 : Int32} {P : Int32 → qMI → qML → Prop} (hc : wkI l G d n_X9_in [.int a2, .int 0, .int 24] I L R P) (kk : ∀ y I' L', P y I' L' → wkB l G (d + 1) n_X9_look Q 19 [.ref 292, .int a1, .int a2, wkU, wkU, wkU, wkU, wkU, wkU] [.int y] I' L' R) : wkB l G (d + 1) n_X9_look Q 12 [.ref 292, .int a1, .int a2, wkU, wkU, wkU, wkU, wkU, wkU] [] I L R :=
  bb_iload_n (n := 2) (i := 2) (zd (i := .iload_n 2) (n := 1) (by decide +kernel)) rfl rfl <|
  bb_lift (fun _ => q_iconst (n := 0) (zd (i := .iconst (0)) (n := 1) (by decide +kernel)) rfl) <|
  bb_lift (fun _ => q_bipush (n := 24) (zd (i := .bipush (24)) (n := 2) (by decide +kernel)) rfl) <|
  bb_callSI (idx := 304) (N := n_X9_in) (As := [.int a2, .int 0, .int 24]) (st := []) (zd (i := .invokestatic 304) (n := 3) (by decide +kernel)) to_X9_in g1442 g1443 (Nat.le_of_ble_eq_true rfl) rfl rfl hc kk
theorem w_X9_look_19 {Q : qQ} {I : qMI} {L : qML} {R : qMR} {a1 : Int32} {a2 : Int32} {s0 : Int32} (kt : ¬ s0 = 0 → wkB l G (d + 1) n_X9_look Q 24 [.ref 292, .int a1, .int a2, wkU, wkU, wkU, wkU, wkU, wkU] [] I L R) (kf : s0 = 0 → wkB l G (d + 1) n_X9_look Q 22 [.ref 292, .int a1, .int a2, wkU, wkU, wkU, wkU, wkU, wkU] [] I L R) : wkB l G (d + 1) n_X9_look Q 19 [.ref 292, .int a1, .int a2, wkU, wkU, wkU, wkU, wkU, wkU] [.int s0] I L R :=
  (fun lv hl => q_if_ne (off := 5) (tgt := 24) (zd (i := .ifCond .ne (5)) (n := 3) (by decide +kernel)) (by decide) (fun h => (kt h) lv hl) (fun h => (kf h) lv hl))
theorem w_X9_look_22 {Q : qQ} {I : qMI} {L : qML} {R : qMR} {a1 : Int32} {a2 : Int32} (hQ : Q (some (.int (-1))) 336 I L R) : wkB l G (d + 1) n_X9_look Q 22 [.ref 292, .int a1, .int a2, wkU, wkU, wkU, wkU, wkU, wkU] [] I L R :=
  bb_lift (fun _ => q_iconst (n := -1) (zd (i := .iconst (-1)) (n := 1) (by decide +kernel)) rfl) <|
  (fun lv hl => q_iret (zd (i := .ireturn) (n := 1) (by decide +kernel)) rfl rfl (Nat.le_refl _) (Nat.le_refl _) hQ)
theorem w_X9_look_24 {Q : qQ} {I : qMI} {L : qML} {R : qMR} {a1 : Int32} {a2 : Int32} (k : wkB l G (d + 1) n_X9_look Q 26 [.ref 292, .int a1, .int a2, .int 0, wkU, wkU, wkU, wkU, wkU] [] I L R) : wkB l G (d + 1) n_X9_look Q 24 [.ref 292, .int a1, .int a2, wkU, wkU, wkU, wkU, wkU, wkU] [] I L R :=
  bb_lift (fun _ => q_iconst (n := 0) (zd (i := .iconst (0)) (n := 1) (by decide +kernel)) rfl) <|
  bb_istore_n (n := 3) (i := 3) (zd (i := .istore_n 3) (n := 1) (by decide +kernel)) rfl (by decide +kernel) (wkNl_i rfl) <|
  k
theorem w_X9_look_26 {Q : qQ} {I : qMI} {L : qML} {R : qMR} {a1 : Int32} {a2 : Int32} {a3 : Int32} (kt : 420 ≤ a3 → wkB l G (d + 1) n_X9_look Q 46 [.ref 292, .int a1, .int a2, .int a3, wkU, wkU, wkU, wkU, wkU] [] I L R) (kf : ¬ 420 ≤ a3 → wkB l G (d + 1) n_X9_look Q 33 [.ref 292, .int a1, .int a2, .int a3, wkU, wkU, wkU, wkU, wkU] [] I L R) : wkB l G (d + 1) n_X9_look Q 26 [.ref 292, .int a1, .int a2, .int a3, wkU, wkU, wkU, wkU, wkU] [] I L R :=
  bb_iload_n (n := 3) (i := 3) (zd (i := .iload_n 3) (n := 1) (by decide +kernel)) rfl rfl <|
  bb_lift (fun _ => q_sipush (n := 420) (zd (i := .sipush (420)) (n := 3) (by decide +kernel)) rfl) <|
  (fun lv hl => q_icmp_ge (off := 16) (tgt := 46) (zd (i := .if_icmp .ge (16)) (n := 3) (by decide +kernel)) (by decide) (fun h => (kt h) lv hl) (fun h => (kf h) lv hl))
theorem w_X9_look_33 {Q : qQ} {I : qMI} {L : qML} {R : qMR} (hR : wkR R) {a1 : Int32} {a2 : Int32} {a3 : Int32} (h1 : vp_in a3 420) (k : wkB l G (d + 1) n_X9_look Q 26 [.ref 292, .int a1, .int a2, .int (a3 + 1), wkU, wkU, wkU, wkU, wkU] [] (qUp I 333 a3.toNatClampNeg 0) L R) : wkB l G (d + 1) n_X9_look Q 33 [.ref 292, .int a1, .int a2, .int a3, wkU, wkU, wkU, wkU, wkU] [] I L R :=
  bb_aload_n (n := 0) (i := 0) (zd (i := .aload_n 0) (n := 1) (by decide +kernel)) rfl rfl <|
  bb_getr (k := 292) (ci := 9) (j := 62) (idx := 140) (a := 333) (zd (i := .getfield 140) (n := 3) (by decide +kernel)) (by decide +kernel) (by decide +kernel) (by decide +kernel) (by decide +kernel) rfl g1190 (hR 62 (by decide)) <|
  bb_iload_n (n := 3) (i := 3) (zd (i := .iload_n 3) (n := 1) (by decide +kernel)) rfl rfl <|
  bb_lift (fun _ => q_iconst (n := 0) (zd (i := .iconst (0)) (n := 1) (by decide +kernel)) rfl) <|
  bb_lift (fun _ => q_iast (k := 333) (zd (i := .iastore) (n := 1) (by decide +kernel)) (by decide +kernel) (by decide +kernel) h1) <|
  bb_iinc (i := 3) (n := 1) (zd (i := .iinc 3 (1)) (n := 3) (by decide +kernel)) rfl rfl (by decide +kernel) (wkNl_i rfl) <|
  bb_lift (fun _ => q_goto (off := -17) (tgt := 26) (zd (i := .goto (-17)) (n := 3) (by decide +kernel)) (by decide)) k
theorem w_X9_look_46 {Q : qQ} {I : qMI} {L : qML} {R : qMR} {a1 : Int32} {a2 : Int32} {a3 : Int32} (k : wkB l G (d + 1) n_X9_look Q 51 [.ref 292, .int a1, .int a2, .int 0, .int 0, wkU, wkU, wkU, wkU] [] I L R) : wkB l G (d + 1) n_X9_look Q 46 [.ref 292, .int a1, .int a2, .int a3, wkU, wkU, wkU, wkU, wkU] [] I L R :=
  bb_lift (fun _ => q_iconst (n := 0) (zd (i := .iconst (0)) (n := 1) (by decide +kernel)) rfl) <|
  bb_istore_n (n := 3) (i := 3) (zd (i := .istore_n 3) (n := 1) (by decide +kernel)) rfl (by decide +kernel) (wkNl_i rfl) <|
  bb_lift (fun _ => q_iconst (n := 0) (zd (i := .iconst (0)) (n := 1) (by decide +kernel)) rfl) <|
  bb_istore (i := 4) (zd (i := .istore 4) (n := 2) (by decide +kernel)) (by decide +kernel) (wkNl_i rfl) <|
  k
theorem w_X9_look_51 {Q : qQ} {I : qMI} {L : qML} {R : qMR} {a1 : Int32} {a2 : Int32} {a3 : Int32} {a4 : Int32} (kt : 180 ≤ a4 → wkB l G (d + 1) n_X9_look Q 153 [.ref 292, .int a1, .int a2, .int a3, .int a4, wkU, wkU, wkU, wkU] [] I L R) (kf : ¬ 180 ≤ a4 → wkB l G (d + 1) n_X9_look Q 59 [.ref 292, .int a1, .int a2, .int a3, .int a4, wkU, wkU, wkU, wkU] [] I L R) : wkB l G (d + 1) n_X9_look Q 51 [.ref 292, .int a1, .int a2, .int a3, .int a4, wkU, wkU, wkU, wkU] [] I L R :=
  bb_iload (i := 4) (zd (i := .iload 4) (n := 2) (by decide +kernel)) rfl <|
  bb_lift (fun _ => q_sipush (n := 180) (zd (i := .sipush (180)) (n := 3) (by decide +kernel)) rfl) <|
  (fun lv hl => q_icmp_ge (off := 97) (tgt := 153) (zd (i := .if_icmp .ge (97)) (n := 3) (by decide +kernel)) (by decide) (fun h => (kt h) lv hl) (fun h => (kf h) lv hl))
theorem w_X9_look_59 {Q : qQ} {I : qMI} {L : qML} {R : qMR} {a1 : Int32} {a2 : Int32} {a3 : Int32} {a4 : Int32} {P : Int32 → qMI → qML → Prop} (hc : wkI l G d n_X9_isSo [.ref 292, .int a4, .int a1] I L R P) (kk : ∀ y I' L', P y I' L' → wkB l G (d + 1) n_X9_look Q 66 [.ref 292, .int a1, .int a2, .int a3, .int a4, wkU, wkU, wkU, wkU] [.int y] I' L' R) : wkB l G (d + 1) n_X9_look Q 59 [.ref 292, .int a1, .int a2, .int a3, .int a4, wkU, wkU, wkU, wkU] [] I L R :=
  bb_aload_n (n := 0) (i := 0) (zd (i := .aload_n 0) (n := 1) (by decide +kernel)) rfl rfl <|
  bb_iload (i := 4) (zd (i := .iload 4) (n := 2) (by decide +kernel)) rfl <|
  bb_iload_n (n := 1) (i := 1) (zd (i := .iload_n 1) (n := 1) (by decide +kernel)) rfl rfl <|
  bb_callVI (idx := 428) (k := 292) (ci := 9) (N := n_X9_isSo) (As := [.int a4, .int a1]) (st := []) (zd (i := .invokevirtual 428) (n := 3) (by decide +kernel)) to_X9_isSo g1685 g1687 g94 (Nat.le_of_ble_eq_true rfl) (by decide +kernel) (by decide +kernel) (by decide +kernel) rfl rfl rfl hc kk
theorem w_X9_look_66 {Q : qQ} {I : qMI} {L : qML} {R : qMR} {a1 : Int32} {a2 : Int32} {a3 : Int32} {a4 : Int32} {s0 : Int32} (kt : ¬ s0 = 0 → wkB l G (d + 1) n_X9_look Q 72 [.ref 292, .int a1, .int a2, .int a3, .int a4, wkU, wkU, wkU, wkU] [] I L R) (kf : s0 = 0 → wkB l G (d + 1) n_X9_look Q 69 [.ref 292, .int a1, .int a2, .int a3, .int a4, wkU, wkU, wkU, wkU] [] I L R) : wkB l G (d + 1) n_X9_look Q 66 [.ref 292, .int a1, .int a2, .int a3, .int a4, wkU, wkU, wkU, wkU] [.int s0] I L R :=
  (fun lv hl => q_if_ne (off := 6) (tgt := 72) (zd (i := .ifCond .ne (6)) (n := 3) (by decide +kernel)) (by decide) (fun h => (kt h) lv hl) (fun h => (kf h) lv hl))
theorem w_X9_look_69 {Q : qQ} {I : qMI} {L : qML} {R : qMR} {a1 : Int32} {a2 : Int32} {a3 : Int32} {a4 : Int32} (k : wkB l G (d + 1) n_X9_look Q 147 [.ref 292, .int a1, .int a2, .int a3, .int a4, wkU, wkU, wkU, wkU] [] I L R) : wkB l G (d + 1) n_X9_look Q 69 [.ref 292, .int a1, .int a2, .int a3, .int a4, wkU, wkU, wkU, wkU] [] I L R :=
  bb_lift (fun _ => q_goto (off := 78) (tgt := 147) (zd (i := .goto (78)) (n := 3) (by decide +kernel)) (by decide)) k
theorem w_X9_look_72 {Q : qQ} {I : qMI} {L : qML} {R : qMR} {a1 : Int32} {a2 : Int32} {a3 : Int32} {a4 : Int32} (k : wkB l G (d + 1) n_X9_look Q 78 [.ref 292, .int a1, .int a2, .int (a3 + 1), .int a4, .int 0, wkU, wkU, wkU] [] I L R) : wkB l G (d + 1) n_X9_look Q 72 [.ref 292, .int a1, .int a2, .int a3, .int a4, wkU, wkU, wkU, wkU] [] I L R :=
  bb_iinc (i := 3) (n := 1) (zd (i := .iinc 3 (1)) (n := 3) (by decide +kernel)) rfl rfl (by decide +kernel) (wkNl_i rfl) <|
  bb_lift (fun _ => q_iconst (n := 0) (zd (i := .iconst (0)) (n := 1) (by decide +kernel)) rfl) <|
  bb_istore (i := 5) (zd (i := .istore 5) (n := 2) (by decide +kernel)) (by decide +kernel) (wkNl_i rfl) <|
  k
theorem w_X9_look_78 {Q : qQ} {I : qMI} {L : qML} {R : qMR} {a1 : Int32} {a2 : Int32} {a3 : Int32} {a4 : Int32} {a5 : Int32} (kt : 19 < a5 → wkB l G (d + 1) n_X9_look Q 147 [.ref 292, .int a1, .int a2, .int a3, .int a4, wkU, wkU, wkU, wkU] [] I L R) (kf : ¬ 19 < a5 → wkB l G (d + 1) n_X9_look Q 85 [.ref 292, .int a1, .int a2, .int a3, .int a4, .int a5, wkU, wkU, wkU] [] I L R) : wkB l G (d + 1) n_X9_look Q 78 [.ref 292, .int a1, .int a2, .int a3, .int a4, .int a5, wkU, wkU, wkU] [] I L R :=
  bb_iload (i := 5) (zd (i := .iload 5) (n := 2) (by decide +kernel)) rfl <|
  bb_lift (fun _ => q_bipush (n := 19) (zd (i := .bipush (19)) (n := 2) (by decide +kernel)) rfl) <|
  (fun lv hl => q_icmp_gt (off := 65) (tgt := 147) (zd (i := .if_icmp .gt (65)) (n := 3) (by decide +kernel)) (by decide) (fun h => ((wkB_le (vs := [.ref 292, .int a1, .int a2, .int a3, .int a4, wkU, wkU, wkU, wkU]) (ws := [.ref 292, .int a1, .int a2, .int a3, .int a4, .int a5, wkU, wkU, wkU]) ⟨Or.inr rfl, Or.inr rfl, Or.inr rfl, Or.inr rfl, Or.inr rfl, Or.inl rfl, Or.inr rfl, Or.inr rfl, Or.inr rfl, trivial⟩ (kt h))) lv hl) (fun h => (kf h) lv hl))
theorem w_X9_look_85 {Q : qQ} {I : qMI} {L : qML} {R : qMR} (hR : wkR R) {a1 : Int32} {a2 : Int32} {a3 : Int32} {a4 : Int32} {a5 : Int32} (h1 : vp_in 96 97) {P : Int32 → qMI → qML → Prop} (hc : wkI l G d n_X9_seenAt [.ref 292, .int a5, .int (a4 / 9), .int ((a4 - a4 / 9 * 9) + 1), .int ((I 323 (96 : Int32).toNatClampNeg) + a2)] I L R P) (kk : ∀ y I' L', P y I' L' → wkB l G (d + 1) n_X9_look Q 112 [.ref 292, .int a1, .int a2, .int a3, .int a4, .int a5, wkU, wkU, wkU] [.int y] I' L' R) : wkB l G (d + 1) n_X9_look Q 85 [.ref 292, .int a1, .int a2, .int a3, .int a4, .int a5, wkU, wkU, wkU] [] I L R :=
  bb_aload_n (n := 0) (i := 0) (zd (i := .aload_n 0) (n := 1) (by decide +kernel)) rfl rfl <|
  bb_iload (i := 5) (zd (i := .iload 5) (n := 2) (by decide +kernel)) rfl <|
  bb_iload (i := 4) (zd (i := .iload 4) (n := 2) (by decide +kernel)) rfl <|
  bb_lift (fun _ => q_bipush (n := 9) (zd (i := .bipush (9)) (n := 2) (by decide +kernel)) rfl) <|
  bb_lift (fun _ => q_idiv (zd (i := .idiv) (n := 1) (by decide +kernel)) (by decide)) <|
  bb_iload (i := 4) (zd (i := .iload 4) (n := 2) (by decide +kernel)) rfl <|
  bb_lift (fun _ => q_bipush (n := 9) (zd (i := .bipush (9)) (n := 2) (by decide +kernel)) rfl) <|
  bb_lift (fun _ => q_irem (zd (i := .irem) (n := 1) (by decide +kernel)) (by decide)) <|
  bb_lift (fun _ => q_iconst (n := 1) (zd (i := .iconst (1)) (n := 1) (by decide +kernel)) rfl) <|
  bb_lift (fun _ => q_iadd (zd (i := .iadd) (n := 1) (by decide +kernel))) <|
  bb_aload_n (n := 0) (i := 0) (zd (i := .aload_n 0) (n := 1) (by decide +kernel)) rfl rfl <|
  bb_getr (k := 292) (ci := 9) (j := 48) (idx := 110) (a := 323) (zd (i := .getfield 110) (n := 3) (by decide +kernel)) (by decide +kernel) (by decide +kernel) (by decide +kernel) (by decide +kernel) rfl g1176 (hR 48 (by decide)) <|
  bb_lift (fun _ => q_bipush (n := 96) (zd (i := .bipush (96)) (n := 2) (by decide +kernel)) rfl) <|
  bb_lift (fun _ => q_iald (k := 323) (zd (i := .iaload) (n := 1) (by decide +kernel)) (by decide +kernel) (by decide +kernel) h1) <|
  bb_iload_n (n := 2) (i := 2) (zd (i := .iload_n 2) (n := 1) (by decide +kernel)) rfl rfl <|
  bb_lift (fun _ => q_iadd (zd (i := .iadd) (n := 1) (by decide +kernel))) <|
  bb_callVI (idx := 345) (k := 292) (ci := 9) (N := n_X9_seenAt) (As := [.int a5, .int (a4 / 9), .int ((a4 - a4 / 9 * 9) + 1), .int ((I 323 (96 : Int32).toNatClampNeg) + a2)]) (st := []) (zd (i := .invokevirtual 345) (n := 3) (by decide +kernel)) to_X9_seenAt g1582 g1584 g88 (Nat.le_of_ble_eq_true rfl) (by decide +kernel) (by decide +kernel) (by decide +kernel) rfl rfl rfl hc kk
theorem w_X9_look_112 {Q : qQ} {I : qMI} {L : qML} {R : qMR} (hR : wkR R) {a1 : Int32} {a2 : Int32} {a3 : Int32} {a4 : Int32} {a5 : Int32} {s0 : Int32} (kt : 0 ≤ s0 → wkB l G (d + 1) n_X9_look Q 133 [.ref 292, .int a1, .int a2, .int a3, .int a4, .int a5, .int s0, wkU, wkU] [.int (21 * a5), .ref 333] I L R) (kf : ¬ 0 ≤ s0 → wkB l G (d + 1) n_X9_look Q 128 [.ref 292, .int a1, .int a2, .int a3, .int a4, .int a5, .int s0, wkU, wkU] [.int (21 * a5), .ref 333] I L R) : wkB l G (d + 1) n_X9_look Q 112 [.ref 292, .int a1, .int a2, .int a3, .int a4, .int a5, wkU, wkU, wkU] [.int s0] I L R :=
  bb_istore (i := 6) (zd (i := .istore 6) (n := 2) (by decide +kernel)) (by decide +kernel) (wkNl_i rfl) <|
  bb_aload_n (n := 0) (i := 0) (zd (i := .aload_n 0) (n := 1) (by decide +kernel)) rfl rfl <|
  bb_getr (k := 292) (ci := 9) (j := 62) (idx := 140) (a := 333) (zd (i := .getfield 140) (n := 3) (by decide +kernel)) (by decide +kernel) (by decide +kernel) (by decide +kernel) (by decide +kernel) rfl g1190 (hR 62 (by decide)) <|
  bb_lift (fun _ => q_bipush (n := 21) (zd (i := .bipush (21)) (n := 2) (by decide +kernel)) rfl) <|
  bb_iload (i := 5) (zd (i := .iload 5) (n := 2) (by decide +kernel)) rfl <|
  bb_lift (fun _ => q_imul (zd (i := .imul) (n := 1) (by decide +kernel))) <|
  bb_iload (i := 6) (zd (i := .iload 6) (n := 2) (by decide +kernel)) rfl <|
  (fun lv hl => q_if_ge (off := 8) (tgt := 133) (zd (i := .ifCond .ge (8)) (n := 3) (by decide +kernel)) (by decide) (fun h => (kt h) lv hl) (fun h => (kf h) lv hl))
theorem w_X9_look_128 {Q : qQ} {I : qMI} {L : qML} {R : qMR} {a1 : Int32} {a2 : Int32} {a3 : Int32} {a4 : Int32} {a5 : Int32} {a6 : Int32} {s1 : Int32} (k : wkB l G (d + 1) n_X9_look Q 135 [.ref 292, .int a1, .int a2, .int a3, .int a4, .int a5, .int a6, wkU, wkU] [.int 20, .int s1, .ref 333] I L R) : wkB l G (d + 1) n_X9_look Q 128 [.ref 292, .int a1, .int a2, .int a3, .int a4, .int a5, .int a6, wkU, wkU] [.int s1, .ref 333] I L R :=
  bb_lift (fun _ => q_bipush (n := 20) (zd (i := .bipush (20)) (n := 2) (by decide +kernel)) rfl) <|
  bb_lift (fun _ => q_goto (off := 5) (tgt := 135) (zd (i := .goto (5)) (n := 3) (by decide +kernel)) (by decide)) k
theorem w_X9_look_133 {Q : qQ} {I : qMI} {L : qML} {R : qMR} {a1 : Int32} {a2 : Int32} {a3 : Int32} {a4 : Int32} {a5 : Int32} {a6 : Int32} {s1 : Int32} (k : wkB l G (d + 1) n_X9_look Q 135 [.ref 292, .int a1, .int a2, .int a3, .int a4, .int a5, .int a6, wkU, wkU] [.int a6, .int s1, .ref 333] I L R) : wkB l G (d + 1) n_X9_look Q 133 [.ref 292, .int a1, .int a2, .int a3, .int a4, .int a5, .int a6, wkU, wkU] [.int s1, .ref 333] I L R :=
  bb_iload (i := 6) (zd (i := .iload 6) (n := 2) (by decide +kernel)) rfl <|
  k
theorem w_X9_look_135 {Q : qQ} {I : qMI} {L : qML} {R : qMR} {a1 : Int32} {a2 : Int32} {a3 : Int32} {a4 : Int32} {a5 : Int32} {a6 : Int32} {s1 : Int32} {s2 : Int32} (h1 : vp_in (s1 + s2) 420) (h2 : vp_in (s1 + s2) 420) (k : wkB l G (d + 1) n_X9_look Q 78 [.ref 292, .int a1, .int a2, .int a3, .int a4, .int (a5 + 1), wkU, wkU, wkU] [] (qUp I 333 (s1 + s2).toNatClampNeg ((I 333 (s1 + s2).toNatClampNeg) + 1)) L R) : wkB l G (d + 1) n_X9_look Q 135 [.ref 292, .int a1, .int a2, .int a3, .int a4, .int a5, .int a6, wkU, wkU] [.int s2, .int s1, .ref 333] I L R :=
  bb_lift (fun _ => q_iadd (zd (i := .iadd) (n := 1) (by decide +kernel))) <|
  bb_lift (fun _ => q_dup2 (zd (i := .dup2) (n := 1) (by decide +kernel)) rfl rfl) <|
  bb_lift (fun _ => q_iald (k := 333) (zd (i := .iaload) (n := 1) (by decide +kernel)) (by decide +kernel) (by decide +kernel) h1) <|
  bb_lift (fun _ => q_iconst (n := 1) (zd (i := .iconst (1)) (n := 1) (by decide +kernel)) rfl) <|
  bb_lift (fun _ => q_iadd (zd (i := .iadd) (n := 1) (by decide +kernel))) <|
  bb_lift (fun _ => q_iast (k := 333) (zd (i := .iastore) (n := 1) (by decide +kernel)) (by decide +kernel) (by decide +kernel) h2) <|
  bb_iinc (i := 5) (n := 1) (zd (i := .iinc 5 (1)) (n := 3) (by decide +kernel)) rfl rfl (by decide +kernel) (wkNl_i rfl) <|
  bb_lift (fun _ => q_goto (off := -66) (tgt := 78) (zd (i := .goto (-66)) (n := 3) (by decide +kernel)) (by decide)) (wkB_le (vs := [.ref 292, .int a1, .int a2, .int a3, .int a4, .int (a5 + 1), wkU, wkU, wkU]) (ws := [.ref 292, .int a1, .int a2, .int a3, .int a4, .int (a5 + 1), .int a6, wkU, wkU]) ⟨Or.inr rfl, Or.inr rfl, Or.inr rfl, Or.inr rfl, Or.inr rfl, Or.inr rfl, Or.inl rfl, Or.inr rfl, Or.inr rfl, trivial⟩ (k))
theorem w_X9_look_147 {Q : qQ} {I : qMI} {L : qML} {R : qMR} {a1 : Int32} {a2 : Int32} {a3 : Int32} {a4 : Int32} (k : wkB l G (d + 1) n_X9_look Q 51 [.ref 292, .int a1, .int a2, .int a3, .int (a4 + 1), wkU, wkU, wkU, wkU] [] I L R) : wkB l G (d + 1) n_X9_look Q 147 [.ref 292, .int a1, .int a2, .int a3, .int a4, wkU, wkU, wkU, wkU] [] I L R :=
  bb_iinc (i := 4) (n := 1) (zd (i := .iinc 4 (1)) (n := 3) (by decide +kernel)) rfl rfl (by decide +kernel) (wkNl_i rfl) <|
  bb_lift (fun _ => q_goto (off := -99) (tgt := 51) (zd (i := .goto (-99)) (n := 3) (by decide +kernel)) (by decide)) k
theorem w_X9_look_153 {Q : qQ} {I : qMI} {L : qML} {R : qMR} {a1 : Int32} {a2 : Int32} {a3 : Int32} {a4 : Int32} (kt : ¬ a3 = 0 → wkB l G (d + 1) n_X9_look Q 160 [.ref 292, .int a1, .int a2, .int a3, .int a4, wkU, wkU, wkU, wkU] [] I L R) (kf : a3 = 0 → wkB l G (d + 1) n_X9_look Q 157 [.ref 292, .int a1, .int a2, .int a3, .int a4, wkU, wkU, wkU, wkU] [] I L R) : wkB l G (d + 1) n_X9_look Q 153 [.ref 292, .int a1, .int a2, .int a3, .int a4, wkU, wkU, wkU, wkU] [] I L R :=
  bb_iload_n (n := 3) (i := 3) (zd (i := .iload_n 3) (n := 1) (by decide +kernel)) rfl rfl <|
  (fun lv hl => q_if_ne (off := 6) (tgt := 160) (zd (i := .ifCond .ne (6)) (n := 3) (by decide +kernel)) (by decide) (fun h => (kt h) lv hl) (fun h => (kf h) lv hl))
theorem w_X9_look_157 {Q : qQ} {I : qMI} {L : qML} {R : qMR} {a1 : Int32} {a2 : Int32} {a3 : Int32} {a4 : Int32} (hQ : Q (some (.int (-2))) 336 I L R) : wkB l G (d + 1) n_X9_look Q 157 [.ref 292, .int a1, .int a2, .int a3, .int a4, wkU, wkU, wkU, wkU] [] I L R :=
  bb_lift (fun _ => q_bipush (n := -2) (zd (i := .bipush (-2)) (n := 2) (by decide +kernel)) rfl) <|
  (fun lv hl => q_iret (zd (i := .ireturn) (n := 1) (by decide +kernel)) rfl rfl (Nat.le_refl _) (Nat.le_refl _) hQ)
theorem w_X9_look_160 {Q : qQ} {I : qMI} {L : qML} {R : qMR} {a1 : Int32} {a2 : Int32} {a3 : Int32} {a4 : Int32} (k : wkB l G (d + 1) n_X9_look Q 170 [.ref 292, .int a1, .int a2, .int a3, .int (-2), .int 0, .int 0, wkU, wkU] [] I L R) : wkB l G (d + 1) n_X9_look Q 160 [.ref 292, .int a1, .int a2, .int a3, .int a4, wkU, wkU, wkU, wkU] [] I L R :=
  bb_lift (fun _ => q_bipush (n := -2) (zd (i := .bipush (-2)) (n := 2) (by decide +kernel)) rfl) <|
  bb_istore (i := 4) (zd (i := .istore 4) (n := 2) (by decide +kernel)) (by decide +kernel) (wkNl_i rfl) <|
  bb_lift (fun _ => q_iconst (n := 0) (zd (i := .iconst (0)) (n := 1) (by decide +kernel)) rfl) <|
  bb_istore (i := 5) (zd (i := .istore 5) (n := 2) (by decide +kernel)) (by decide +kernel) (wkNl_i rfl) <|
  bb_lift (fun _ => q_iconst (n := 0) (zd (i := .iconst (0)) (n := 1) (by decide +kernel)) rfl) <|
  bb_istore (i := 6) (zd (i := .istore 6) (n := 2) (by decide +kernel)) (by decide +kernel) (wkNl_i rfl) <|
  k
theorem w_X9_look_170 {Q : qQ} {I : qMI} {L : qML} {R : qMR} {a1 : Int32} {a2 : Int32} {a3 : Int32} {a4 : Int32} {a5 : Int32} {a6 : Int32} (kt : 19 < a6 → wkB l G (d + 1) n_X9_look Q 258 [.ref 292, .int a1, .int a2, .int a3, .int a4, .int a5, .int a6, wkU, wkU] [] I L R) (kf : ¬ 19 < a6 → wkB l G (d + 1) n_X9_look Q 177 [.ref 292, .int a1, .int a2, .int a3, .int a4, .int a5, .int a6, wkU, wkU] [] I L R) : wkB l G (d + 1) n_X9_look Q 170 [.ref 292, .int a1, .int a2, .int a3, .int a4, .int a5, .int a6, wkU, wkU] [] I L R :=
  bb_iload (i := 6) (zd (i := .iload 6) (n := 2) (by decide +kernel)) rfl <|
  bb_lift (fun _ => q_bipush (n := 19) (zd (i := .bipush (19)) (n := 2) (by decide +kernel)) rfl) <|
  (fun lv hl => q_icmp_gt (off := 84) (tgt := 258) (zd (i := .if_icmp .gt (84)) (n := 3) (by decide +kernel)) (by decide) (fun h => (kt h) lv hl) (fun h => (kf h) lv hl))
theorem w_X9_look_177 {Q : qQ} {I : qMI} {L : qML} {R : qMR} {a1 : Int32} {a2 : Int32} {a3 : Int32} {a4 : Int32} {a5 : Int32} {a6 : Int32} (k : wkB l G (d + 1) n_X9_look Q 183 [.ref 292, .int a1, .int a2, .int a3, .int a4, .int a5, .int a6, .int 0, .int 0] [] I L R) : wkB l G (d + 1) n_X9_look Q 177 [.ref 292, .int a1, .int a2, .int a3, .int a4, .int a5, .int a6, wkU, wkU] [] I L R :=
  bb_lift (fun _ => q_iconst (n := 0) (zd (i := .iconst (0)) (n := 1) (by decide +kernel)) rfl) <|
  bb_istore (i := 7) (zd (i := .istore 7) (n := 2) (by decide +kernel)) (by decide +kernel) (wkNl_i rfl) <|
  bb_lift (fun _ => q_iconst (n := 0) (zd (i := .iconst (0)) (n := 1) (by decide +kernel)) rfl) <|
  bb_istore (i := 8) (zd (i := .istore 8) (n := 2) (by decide +kernel)) (by decide +kernel) (wkNl_i rfl) <|
  k
theorem w_X9_look_183 {Q : qQ} {I : qMI} {L : qML} {R : qMR} {a1 : Int32} {a2 : Int32} {a3 : Int32} {a4 : Int32} {a5 : Int32} {a6 : Int32} {a7 : Int32} {a8 : Int32} (kt : 20 < a8 → wkB l G (d + 1) n_X9_look Q 229 [.ref 292, .int a1, .int a2, .int a3, .int a4, .int a5, .int a6, .int a7, .int a8] [] I L R) (kf : ¬ 20 < a8 → wkB l G (d + 1) n_X9_look Q 190 [.ref 292, .int a1, .int a2, .int a3, .int a4, .int a5, .int a6, .int a7, .int a8] [] I L R) : wkB l G (d + 1) n_X9_look Q 183 [.ref 292, .int a1, .int a2, .int a3, .int a4, .int a5, .int a6, .int a7, .int a8] [] I L R :=
  bb_iload (i := 8) (zd (i := .iload 8) (n := 2) (by decide +kernel)) rfl <|
  bb_lift (fun _ => q_bipush (n := 20) (zd (i := .bipush (20)) (n := 2) (by decide +kernel)) rfl) <|
  (fun lv hl => q_icmp_gt (off := 42) (tgt := 229) (zd (i := .if_icmp .gt (42)) (n := 3) (by decide +kernel)) (by decide) (fun h => (kt h) lv hl) (fun h => (kf h) lv hl))
theorem w_X9_look_190 {Q : qQ} {I : qMI} {L : qML} {R : qMR} (hR : wkR R) {a1 : Int32} {a2 : Int32} {a3 : Int32} {a4 : Int32} {a5 : Int32} {a6 : Int32} {a7 : Int32} {a8 : Int32} (h1 : vp_in ((21 * a6) + a8) 420) (kt : (I 333 ((21 * a6) + a8).toNatClampNeg) ≤ a7 → wkB l G (d + 1) n_X9_look Q 223 [.ref 292, .int a1, .int a2, .int a3, .int a4, .int a5, .int a6, .int a7, .int a8] [] I L R) (kf : ¬ (I 333 ((21 * a6) + a8).toNatClampNeg) ≤ a7 → wkB l G (d + 1) n_X9_look Q 208 [.ref 292, .int a1, .int a2, .int a3, .int a4, .int a5, .int a6, .int a7, .int a8] [] I L R) : wkB l G (d + 1) n_X9_look Q 190 [.ref 292, .int a1, .int a2, .int a3, .int a4, .int a5, .int a6, .int a7, .int a8] [] I L R :=
  bb_aload_n (n := 0) (i := 0) (zd (i := .aload_n 0) (n := 1) (by decide +kernel)) rfl rfl <|
  bb_getr (k := 292) (ci := 9) (j := 62) (idx := 140) (a := 333) (zd (i := .getfield 140) (n := 3) (by decide +kernel)) (by decide +kernel) (by decide +kernel) (by decide +kernel) (by decide +kernel) rfl g1190 (hR 62 (by decide)) <|
  bb_lift (fun _ => q_bipush (n := 21) (zd (i := .bipush (21)) (n := 2) (by decide +kernel)) rfl) <|
  bb_iload (i := 6) (zd (i := .iload 6) (n := 2) (by decide +kernel)) rfl <|
  bb_lift (fun _ => q_imul (zd (i := .imul) (n := 1) (by decide +kernel))) <|
  bb_iload (i := 8) (zd (i := .iload 8) (n := 2) (by decide +kernel)) rfl <|
  bb_lift (fun _ => q_iadd (zd (i := .iadd) (n := 1) (by decide +kernel))) <|
  bb_lift (fun _ => q_iald (k := 333) (zd (i := .iaload) (n := 1) (by decide +kernel)) (by decide +kernel) (by decide +kernel) h1) <|
  bb_iload (i := 7) (zd (i := .iload 7) (n := 2) (by decide +kernel)) rfl <|
  (fun lv hl => q_icmp_le (off := 18) (tgt := 223) (zd (i := .if_icmp .le (18)) (n := 3) (by decide +kernel)) (by decide) (fun h => (kt h) lv hl) (fun h => (kf h) lv hl))
theorem w_X9_look_208 {Q : qQ} {I : qMI} {L : qML} {R : qMR} (hR : wkR R) {a1 : Int32} {a2 : Int32} {a3 : Int32} {a4 : Int32} {a5 : Int32} {a6 : Int32} {a7 : Int32} {a8 : Int32} (h1 : vp_in ((21 * a6) + a8) 420) (k : wkB l G (d + 1) n_X9_look Q 223 [.ref 292, .int a1, .int a2, .int a3, .int a4, .int a5, .int a6, .int (I 333 ((21 * a6) + a8).toNatClampNeg), .int a8] [] I L R) : wkB l G (d + 1) n_X9_look Q 208 [.ref 292, .int a1, .int a2, .int a3, .int a4, .int a5, .int a6, .int a7, .int a8] [] I L R :=
  bb_aload_n (n := 0) (i := 0) (zd (i := .aload_n 0) (n := 1) (by decide +kernel)) rfl rfl <|
  bb_getr (k := 292) (ci := 9) (j := 62) (idx := 140) (a := 333) (zd (i := .getfield 140) (n := 3) (by decide +kernel)) (by decide +kernel) (by decide +kernel) (by decide +kernel) (by decide +kernel) rfl g1190 (hR 62 (by decide)) <|
  bb_lift (fun _ => q_bipush (n := 21) (zd (i := .bipush (21)) (n := 2) (by decide +kernel)) rfl) <|
  bb_iload (i := 6) (zd (i := .iload 6) (n := 2) (by decide +kernel)) rfl <|
  bb_lift (fun _ => q_imul (zd (i := .imul) (n := 1) (by decide +kernel))) <|
  bb_iload (i := 8) (zd (i := .iload 8) (n := 2) (by decide +kernel)) rfl <|
  bb_lift (fun _ => q_iadd (zd (i := .iadd) (n := 1) (by decide +kernel))) <|
  bb_lift (fun _ => q_iald (k := 333) (zd (i := .iaload) (n := 1) (by decide +kernel)) (by decide +kernel) (by decide +kernel) h1) <|
  bb_istore (i := 7) (zd (i := .istore 7) (n := 2) (by decide +kernel)) (by decide +kernel) (wkNl_i rfl) <|
  k
theorem w_X9_look_223 {Q : qQ} {I : qMI} {L : qML} {R : qMR} {a1 : Int32} {a2 : Int32} {a3 : Int32} {a4 : Int32} {a5 : Int32} {a6 : Int32} {a7 : Int32} {a8 : Int32} (k : wkB l G (d + 1) n_X9_look Q 183 [.ref 292, .int a1, .int a2, .int a3, .int a4, .int a5, .int a6, .int a7, .int (a8 + 1)] [] I L R) : wkB l G (d + 1) n_X9_look Q 223 [.ref 292, .int a1, .int a2, .int a3, .int a4, .int a5, .int a6, .int a7, .int a8] [] I L R :=
  bb_iinc (i := 8) (n := 1) (zd (i := .iinc 8 (1)) (n := 3) (by decide +kernel)) rfl rfl (by decide +kernel) (wkNl_i rfl) <|
  bb_lift (fun _ => q_goto (off := -43) (tgt := 183) (zd (i := .goto (-43)) (n := 3) (by decide +kernel)) (by decide)) k
theorem w_X9_look_229 {Q : qQ} {I : qMI} {L : qML} {R : qMR} {a1 : Int32} {a2 : Int32} {a3 : Int32} {a4 : Int32} {a5 : Int32} {a6 : Int32} {a7 : Int32} {a8 : Int32} (kt : a4 < 0 → wkB l G (d + 1) n_X9_look Q 244 [.ref 292, .int a1, .int a2, .int a3, .int a4, .int a5, .int a6, .int a7, .int a8] [] I L R) (kf : ¬ a4 < 0 → wkB l G (d + 1) n_X9_look Q 234 [.ref 292, .int a1, .int a2, .int a3, .int a4, .int a5, .int a6, .int a7, .int a8] [] I L R) : wkB l G (d + 1) n_X9_look Q 229 [.ref 292, .int a1, .int a2, .int a3, .int a4, .int a5, .int a6, .int a7, .int a8] [] I L R :=
  bb_iload (i := 4) (zd (i := .iload 4) (n := 2) (by decide +kernel)) rfl <|
  (fun lv hl => q_if_lt (off := 13) (tgt := 244) (zd (i := .ifCond .lt (13)) (n := 3) (by decide +kernel)) (by decide) (fun h => (kt h) lv hl) (fun h => (kf h) lv hl))
theorem w_X9_look_234 {Q : qQ} {I : qMI} {L : qML} {R : qMR} {a1 : Int32} {a2 : Int32} {a3 : Int32} {a4 : Int32} {a5 : Int32} {a6 : Int32} {a7 : Int32} {a8 : Int32} (kt : a7 < a5 → wkB l G (d + 1) n_X9_look Q 244 [.ref 292, .int a1, .int a2, .int a3, .int a4, .int a5, .int a6, .int a7, .int a8] [] I L R) (kf : ¬ a7 < a5 → wkB l G (d + 1) n_X9_look Q 241 [.ref 292, .int a1, .int a2, .int a3, .int a4, .int a5, .int a6, .int a7, .int a8] [] I L R) : wkB l G (d + 1) n_X9_look Q 234 [.ref 292, .int a1, .int a2, .int a3, .int a4, .int a5, .int a6, .int a7, .int a8] [] I L R :=
  bb_iload (i := 7) (zd (i := .iload 7) (n := 2) (by decide +kernel)) rfl <|
  bb_iload (i := 5) (zd (i := .iload 5) (n := 2) (by decide +kernel)) rfl <|
  (fun lv hl => q_icmp_lt (off := 6) (tgt := 244) (zd (i := .if_icmp .lt (6)) (n := 3) (by decide +kernel)) (by decide) (fun h => (kt h) lv hl) (fun h => (kf h) lv hl))
theorem w_X9_look_241 {Q : qQ} {I : qMI} {L : qML} {R : qMR} {a1 : Int32} {a2 : Int32} {a3 : Int32} {a4 : Int32} {a5 : Int32} {a6 : Int32} {a7 : Int32} {a8 : Int32} (k : wkB l G (d + 1) n_X9_look Q 252 [.ref 292, .int a1, .int a2, .int a3, .int a4, .int a5, .int a6, .int a7, .int a8] [] I L R) : wkB l G (d + 1) n_X9_look Q 241 [.ref 292, .int a1, .int a2, .int a3, .int a4, .int a5, .int a6, .int a7, .int a8] [] I L R :=
  bb_lift (fun _ => q_goto (off := 11) (tgt := 252) (zd (i := .goto (11)) (n := 3) (by decide +kernel)) (by decide)) k
theorem w_X9_look_244 {Q : qQ} {I : qMI} {L : qML} {R : qMR} {a1 : Int32} {a2 : Int32} {a3 : Int32} {a4 : Int32} {a5 : Int32} {a6 : Int32} {a7 : Int32} {a8 : Int32} (k : wkB l G (d + 1) n_X9_look Q 252 [.ref 292, .int a1, .int a2, .int a3, .int a6, .int a7, .int a6, .int a7, .int a8] [] I L R) : wkB l G (d + 1) n_X9_look Q 244 [.ref 292, .int a1, .int a2, .int a3, .int a4, .int a5, .int a6, .int a7, .int a8] [] I L R :=
  bb_iload (i := 6) (zd (i := .iload 6) (n := 2) (by decide +kernel)) rfl <|
  bb_istore (i := 4) (zd (i := .istore 4) (n := 2) (by decide +kernel)) (by decide +kernel) (wkNl_i rfl) <|
  bb_iload (i := 7) (zd (i := .iload 7) (n := 2) (by decide +kernel)) rfl <|
  bb_istore (i := 5) (zd (i := .istore 5) (n := 2) (by decide +kernel)) (by decide +kernel) (wkNl_i rfl) <|
  k
theorem w_X9_look_252 {Q : qQ} {I : qMI} {L : qML} {R : qMR} {a1 : Int32} {a2 : Int32} {a3 : Int32} {a4 : Int32} {a5 : Int32} {a6 : Int32} {a7 : Int32} {a8 : Int32} (k : wkB l G (d + 1) n_X9_look Q 170 [.ref 292, .int a1, .int a2, .int a3, .int a4, .int a5, .int (a6 + 1), wkU, wkU] [] I L R) : wkB l G (d + 1) n_X9_look Q 252 [.ref 292, .int a1, .int a2, .int a3, .int a4, .int a5, .int a6, .int a7, .int a8] [] I L R :=
  bb_iinc (i := 6) (n := 1) (zd (i := .iinc 6 (1)) (n := 3) (by decide +kernel)) rfl rfl (by decide +kernel) (wkNl_i rfl) <|
  bb_lift (fun _ => q_goto (off := -85) (tgt := 170) (zd (i := .goto (-85)) (n := 3) (by decide +kernel)) (by decide)) (wkB_le (vs := [.ref 292, .int a1, .int a2, .int a3, .int a4, .int a5, .int (a6 + 1), wkU, wkU]) (ws := [.ref 292, .int a1, .int a2, .int a3, .int a4, .int a5, .int (a6 + 1), .int a7, .int a8]) ⟨Or.inr rfl, Or.inr rfl, Or.inr rfl, Or.inr rfl, Or.inr rfl, Or.inr rfl, Or.inr rfl, Or.inl rfl, Or.inl rfl, trivial⟩ (k))
theorem w_X9_look_258 {Q : qQ} {I : qMI} {L : qML} {R : qMR} {a1 : Int32} {a2 : Int32} {a3 : Int32} {a4 : Int32} {a5 : Int32} {a6 : Int32} (hQ : Q (some (.int a4)) 336 I L R) : wkB l G (d + 1) n_X9_look Q 258 [.ref 292, .int a1, .int a2, .int a3, .int a4, .int a5, .int a6, wkU, wkU] [] I L R :=
  bb_iload (i := 4) (zd (i := .iload 4) (n := 2) (by decide +kernel)) rfl <|
  (fun lv hl => q_iret (zd (i := .ireturn) (n := 1) (by decide +kernel)) rfl rfl (Nat.le_refl _) (Nat.le_refl _) hQ)
end
