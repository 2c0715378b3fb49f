section
variable {l : Launch} {G : qG} {d : Nat}
theorem w_X9_seesBits_0 {Q : qQ} {I : qMI} {L : qML} {R : qMR} {a1 : Int32} (k : wkB l G (d + 1) n_X9_seesBits Q 4 [.ref 292, .int a1, .int 0, .int 0] [] I L R) : wkB l G (d + 1) n_X9_seesBits Q 0 [.ref 292, .int a1, wkU, wkU] [] I L R :=
  bb_lift (fun _ => q_iconst (n := 0) (zd (i := .iconst (0)) (n := 1) (by decide +kernel)) rfl) <|
  bb_istore_n (n := 2) (i := 2) (zd (i := .istore_n 2) (n := 1) (by decide +kernel)) rfl (by decide +kernel) (wkNl_i rfl) <|
  bb_lift (fun _ => q_iconst (n := 0) (zd (i := .iconst (0)) (n := 1) (by decide +kernel)) rfl) <|
  bb_istore_n (n := 3) (i := 3) (zd (i := .istore_n 3) (n := 1) (by decide +kernel)) rfl (by decide +kernel) (wkNl_i rfl) <|
  k
theorem w_X9_seesBits_4 {Q : qQ} {I : qMI} {L : qML} {R : qMR} (hR : wkR R) {a1 : Int32} {a2 : Int32} {a3 : Int32} (h1 : vp_in (I 292 18) 2) (kt : (I 301 (I 292 18).toNatClampNeg) ≤ a3 → wkB l G (d + 1) n_X9_seesBits Q 50 [.ref 292, .int a1, .int a2, .int a3] [] I L R) (kf : ¬ (I 301 (I 292 18).toNatClampNeg) ≤ a3 → wkB l G (d + 1) n_X9_seesBits Q 17 [.ref 292, .int a1, .int a2, .int a3] [] I L R) : wkB l G (d + 1) n_X9_seesBits Q 4 [.ref 292, .int a1, .int a2, .int a3] [] I L R :=
  bb_iload_n (n := 3) (i := 3) (zd (i := .iload_n 3) (n := 1) (by decide +kernel)) rfl rfl <|
  bb_aload_n (n := 0) (i := 0) (zd (i := .aload_n 0) (n := 1) (by decide +kernel)) rfl rfl <|
  bb_getr (k := 292) (ci := 9) (j := 22) (idx := 43) (a := 301) (zd (i := .getfield 43) (n := 3) (by decide +kernel)) (by decide +kernel) (by decide +kernel) (by decide +kernel) (by decide +kernel) rfl g1150 (hR 22 (by decide)) <|
  bb_aload_n (n := 0) (i := 0) (zd (i := .aload_n 0) (n := 1) (by decide +kernel)) rfl rfl <|
  bb_geti (k := 292) (ci := 9) (j := 18) (idx := 230) (zd (i := .getfield 230) (n := 3) (by decide +kernel)) (by decide +kernel) (by decide +kernel) (by decide +kernel) (by decide +kernel) rfl g1146 <|
  bb_lift (fun _ => q_iald (k := 301) (zd (i := .iaload) (n := 1) (by decide +kernel)) (by decide +kernel) (by decide +kernel) h1) <|
  (fun lv hl => q_icmp_ge (off := 36) (tgt := 50) (zd (i := .if_icmp .ge (36)) (n := 3) (by decide +kernel)) (by decide) (fun h => (kt h) lv hl) (fun h => (kf h) lv hl))
theorem w_X9_seesBits_17 {Q : qQ} {I : qMI} {L : qML} {R : qMR} (hR : wkR R) {a1 : Int32} {a2 : Int32} {a3 : Int32} (h1 : vp_in a1 97) (h2 : vp_in 96 97) {P : Int32 → qMI → qML → Prop} (hc : wkI l G d n_X9_sees [.ref 292, .int (I 324 a1.toNatClampNeg), .int a3, .int (I 324 (96 : Int32).toNatClampNeg)] I L R P) (kk : ∀ y I' L', P y I' L' → wkB l G (d + 1) n_X9_seesBits Q 35 [.ref 292, .int a1, .int a2, .int a3] [.int y] I' L' R) : wkB l G (d + 1) n_X9_seesBits Q 17 [.ref 292, .int a1, .int a2, .int a3] [] I L R :=
  bb_aload_n (n := 0) (i := 0) (zd (i := .aload_n 0) (n := 1) (by decide +kernel)) rfl rfl <|
  bb_aload_n (n := 0) (i := 0) (zd (i := .aload_n 0) (n := 1) (by decide +kernel)) rfl rfl <|
  bb_getr (k := 292) (ci := 9) (j := 49) (idx := 113) (a := 324) (zd (i := .getfield 113) (n := 3) (by decide +kernel)) (by decide +kernel) (by decide +kernel) (by decide +kernel) (by decide +kernel) rfl g1177 (hR 49 (by decide)) <|
  bb_iload_n (n := 1) (i := 1) (zd (i := .iload_n 1) (n := 1) (by decide +kernel)) rfl rfl <|
  bb_lift (fun _ => q_iald (k := 324) (zd (i := .iaload) (n := 1) (by decide +kernel)) (by decide +kernel) (by decide +kernel) h1) <|
  bb_iload_n (n := 3) (i := 3) (zd (i := .iload_n 3) (n := 1) (by decide +kernel)) rfl rfl <|
  bb_aload_n (n := 0) (i := 0) (zd (i := .aload_n 0) (n := 1) (by decide +kernel)) rfl rfl <|
  bb_getr (k := 292) (ci := 9) (j := 49) (idx := 113) (a := 324) (zd (i := .getfield 113) (n := 3) (by decide +kernel)) (by decide +kernel) (by decide +kernel) (by decide +kernel) (by decide +kernel) rfl g1177 (hR 49 (by decide)) <|
  bb_lift (fun _ => q_bipush (n := 96) (zd (i := .bipush (96)) (n := 2) (by decide +kernel)) rfl) <|
  bb_lift (fun _ => q_iald (k := 324) (zd (i := .iaload) (n := 1) (by decide +kernel)) (by decide +kernel) (by decide +kernel) h2) <|
  bb_callVI (idx := 352) (k := 292) (ci := 9) (N := n_X9_sees) (As := [.int (I 324 a1.toNatClampNeg), .int a3, .int (I 324 (96 : Int32).toNatClampNeg)]) (st := []) (zd (i := .invokevirtual 352) (n := 3) (by decide +kernel)) to_X9_sees g1449 g1451 g68 (Nat.le_of_ble_eq_true rfl) (by decide +kernel) (by decide +kernel) (by decide +kernel) rfl rfl rfl hc kk
theorem w_X9_seesBits_35 {Q : qQ} {I : qMI} {L : qML} {R : qMR} {a1 : Int32} {a2 : Int32} {a3 : Int32} {s0 : Int32} (kt : s0 = 0 → wkB l G (d + 1) n_X9_seesBits Q 44 [.ref 292, .int a1, .int a2, .int a3] [] I L R) (kf : ¬ s0 = 0 → wkB l G (d + 1) n_X9_seesBits Q 38 [.ref 292, .int a1, .int a2, .int a3] [] I L R) : wkB l G (d + 1) n_X9_seesBits Q 35 [.ref 292, .int a1, .int a2, .int a3] [.int s0] I L R :=
  (fun lv hl => q_if_eq (off := 9) (tgt := 44) (zd (i := .ifCond .eq (9)) (n := 3) (by decide +kernel)) (by decide) (fun h => (kt h) lv hl) (fun h => (kf h) lv hl))
theorem w_X9_seesBits_38 {Q : qQ} {I : qMI} {L : qML} {R : qMR} {a1 : Int32} {a2 : Int32} {a3 : Int32} (k : wkB l G (d + 1) n_X9_seesBits Q 44 [.ref 292, .int a1, .int (a2 ||| (1 <<< (a3 &&& 31))), .int a3] [] I L R) : wkB l G (d + 1) n_X9_seesBits Q 38 [.ref 292, .int a1, .int a2, .int a3] [] I L R :=
  bb_iload_n (n := 2) (i := 2) (zd (i := .iload_n 2) (n := 1) (by decide +kernel)) rfl rfl <|
  bb_lift (fun _ => q_iconst (n := 1) (zd (i := .iconst (1)) (n := 1) (by decide +kernel)) rfl) <|
  bb_iload_n (n := 3) (i := 3) (zd (i := .iload_n 3) (n := 1) (by decide +kernel)) rfl rfl <|
  bb_lift (fun _ => q_ishl (zd (i := .ishl) (n := 1) (by decide +kernel))) <|
  bb_lift (fun _ => q_ior (zd (i := .ior) (n := 1) (by decide +kernel))) <|
  bb_istore_n (n := 2) (i := 2) (zd (i := .istore_n 2) (n := 1) (by decide +kernel)) rfl (by decide +kernel) (wkNl_i rfl) <|
  k
theorem w_X9_seesBits_44 {Q : qQ} {I : qMI} {L : qML} {R : qMR} {a1 : Int32} {a2 : Int32} {a3 : Int32} (k : wkB l G (d + 1) n_X9_seesBits Q 4 [.ref 292, .int a1, .int a2, .int (a3 + 1)] [] I L R) : wkB l G (d + 1) n_X9_seesBits Q 44 [.ref 292, .int a1, .int a2, .int a3] [] I L R :=
  bb_iinc (i := 3) (n := 1) (zd (i := .iinc 3 (1)) (n := 3) (by decide +kernel)) rfl rfl (by decide +kernel) (wkNl_i rfl) <|
  bb_lift (fun _ => q_goto (off := -43) (tgt := 4) (zd (i := .goto (-43)) (n := 3) (by decide +kernel)) (by decide)) k
theorem w_X9_seesBits_50 {Q : qQ} {I : qMI} {L : qML} {R : qMR} {a1 : Int32} {a2 : Int32} {a3 : Int32} (hQ : Q (some (.int a2)) 336 I L R) : wkB l G (d + 1) n_X9_seesBits Q 50 [.ref 292, .int a1, .int a2, .int a3] [] I L R :=
  bb_iload_n (n := 2) (i := 2) (zd (i := .iload_n 2) (n := 1) (by decide +kernel)) rfl rfl <|
  (fun lv hl => q_iret (zd (i := .ireturn) (n := 1) (by decide +kernel)) rfl rfl (Nat.le_refl _) (Nat.le_refl _) hQ)
theorem w_X9_lentBy_0 {Q : qQ} {I : qMI} {L : qML} {R : qMR} {a1 : Int32} (k : wkB l G (d + 1) n_X9_lentBy Q 4 [.ref 292, .int a1, .int 0, .int 0] [] I L R) : wkB l G (d + 1) n_X9_lentBy Q 0 [.ref 292, .int a1, wkU, wkU] [] I L R :=
  bb_lift (fun _ => q_iconst (n := 0) (zd (i := .iconst (0)) (n := 1) (by decide +kernel)) rfl) <|
  bb_istore_n (n := 2) (i := 2) (zd (i := .istore_n 2) (n := 1) (by decide +kernel)) rfl (by decide +kernel) (wkNl_i rfl) <|
  bb_lift (fun _ => q_iconst (n := 0) (zd (i := .iconst (0)) (n := 1) (by decide +kernel)) rfl) <|
  bb_istore_n (n := 3) (i := 3) (zd (i := .istore_n 3) (n := 1) (by decide +kernel)) rfl (by decide +kernel) (wkNl_i rfl) <|
  k
theorem w_X9_lentBy_4 {Q : qQ} {I : qMI} {L : qML} {R : qMR} (hR : wkR R) {a1 : Int32} {a2 : Int32} {a3 : Int32} (h1 : vp_in (I 292 18) 2) (kt : (I 301 (I 292 18).toNatClampNeg) ≤ a3 → wkB l G (d + 1) n_X9_lentBy Q 40 [.ref 292, .int a1, .int a2, .int a3] [] I L R) (kf : ¬ (I 301 (I 292 18).toNatClampNeg) ≤ a3 → wkB l G (d + 1) n_X9_lentBy Q 17 [.ref 292, .int a1, .int a2, .int a3] [] I L R) : wkB l G (d + 1) n_X9_lentBy Q 4 [.ref 292, .int a1, .int a2, .int a3] [] I L R :=
  bb_iload_n (n := 3) (i := 3) (zd (i := .iload_n 3) (n := 1) (by decide +kernel)) rfl rfl <|
  bb_aload_n (n := 0) (i := 0) (zd (i := .aload_n 0) (n := 1) (by decide +kernel)) rfl rfl <|
  bb_getr (k := 292) (ci := 9) (j := 22) (idx := 43) (a := 301) (zd (i := .getfield 43) (n := 3) (by decide +kernel)) (by decide +kernel) (by decide +kernel) (by decide +kernel) (by decide +kernel) rfl g1150 (hR 22 (by decide)) <|
  bb_aload_n (n := 0) (i := 0) (zd (i := .aload_n 0) (n := 1) (by decide +kernel)) rfl rfl <|
  bb_geti (k := 292) (ci := 9) (j := 18) (idx := 230) (zd (i := .getfield 230) (n := 3) (by decide +kernel)) (by decide +kernel) (by decide +kernel) (by decide +kernel) (by decide +kernel) rfl g1146 <|
  bb_lift (fun _ => q_iald (k := 301) (zd (i := .iaload) (n := 1) (by decide +kernel)) (by decide +kernel) (by decide +kernel) h1) <|
  (fun lv hl => q_icmp_ge (off := 26) (tgt := 40) (zd (i := .if_icmp .ge (26)) (n := 3) (by decide +kernel)) (by decide) (fun h => (kt h) lv hl) (fun h => (kf h) lv hl))
theorem w_X9_lentBy_17 {Q : qQ} {I : qMI} {L : qML} {R : qMR} (hR : wkR R) {a1 : Int32} {a2 : Int32} {a3 : Int32} (h1 : vp_in ((24 + (6 * a1)) + a3) 97) (k : wkB l G (d + 1) n_X9_lentBy Q 4 [.ref 292, .int a1, .int (a2 + (I 324 ((24 + (6 * a1)) + a3).toNatClampNeg)), .int (a3 + 1)] [] I L R) : wkB l G (d + 1) n_X9_lentBy Q 17 [.ref 292, .int a1, .int a2, .int a3] [] I L R :=
  bb_iload_n (n := 2) (i := 2) (zd (i := .iload_n 2) (n := 1) (by decide +kernel)) rfl rfl <|
  bb_aload_n (n := 0) (i := 0) (zd (i := .aload_n 0) (n := 1) (by decide +kernel)) rfl rfl <|
  bb_getr (k := 292) (ci := 9) (j := 49) (idx := 113) (a := 324) (zd (i := .getfield 113) (n := 3) (by decide +kernel)) (by decide +kernel) (by decide +kernel) (by decide +kernel) (by decide +kernel) rfl g1177 (hR 49 (by decide)) <|
  bb_lift (fun _ => q_bipush (n := 24) (zd (i := .bipush (24)) (n := 2) (by decide +kernel)) rfl) <|
  bb_lift (fun _ => q_bipush (n := 6) (zd (i := .bipush (6)) (n := 2) (by decide +kernel)) rfl) <|
  bb_iload_n (n := 1) (i := 1) (zd (i := .iload_n 1) (n := 1) (by decide +kernel)) rfl rfl <|
  bb_lift (fun _ => q_imul (zd (i := .imul) (n := 1) (by decide +kernel))) <|
  bb_lift (fun _ => q_iadd (zd (i := .iadd) (n := 1) (by decide +kernel))) <|
  bb_iload_n (n := 3) (i := 3) (zd (i := .iload_n 3) (n := 1) (by decide +kernel)) rfl rfl <|
  bb_lift (fun _ => q_iadd (zd (i := .iadd) (n := 1) (by decide +kernel))) <|
  bb_lift (fun _ => q_iald (k := 324) (zd (i := .iaload) (n := 1) (by decide +kernel)) (by decide +kernel) (by decide +kernel) h1) <|
  bb_lift (fun _ => q_iadd (zd (i := .iadd) (n := 1) (by decide +kernel))) <|
  bb_istore_n (n := 2) (i := 2) (zd (i := .istore_n 2) (n := 1) (by decide +kernel)) rfl (by decide +kernel) (wkNl_i rfl) <|
  bb_iinc (i := 3) (n := 1) (zd (i := .iinc 3 (1)) (n := 3) (by decide +kernel)) rfl rfl (by decide +kernel) (wkNl_i rfl) <|
  bb_lift (fun _ => q_goto (off := -33) (tgt := 4) (zd (i := .goto (-33)) (n := 3) (by decide +kernel)) (by decide)) k
theorem w_X9_lentBy_40 {Q : qQ} {I : qMI} {L : qML} {R : qMR} {a1 : Int32} {a2 : Int32} {a3 : Int32} (hQ : Q (some (.int a2)) 336 I L R) : wkB l G (d + 1) n_X9_lentBy Q 40 [.ref 292, .int a1, .int a2, .int a3] [] I L R :=
  bb_iload_n (n := 2) (i := 2) (zd (i := .iload_n 2) (n := 1) (by decide +kernel)) rfl rfl <|
  (fun lv hl => q_iret (zd (i := .ireturn) (n := 1) (by decide +kernel)) rfl rfl (Nat.le_refl _) (Nat.le_refl _) hQ)
theorem w_X9_sumNow_0 {Q : qQ} {I : qMI} {L : qML} {R : qMR} {a1 : Int32} {a2 : Int32} (k : wkB l G (d + 1) n_X9_sumNow Q 5 [.ref 292, .int a1, .int a2, .int 0, .int a1] [] I L R) : wkB l G (d + 1) n_X9_sumNow Q 0 [.ref 292, .int a1, .int a2, wkU, wkU] [] I L R :=
  bb_lift (fun _ => q_iconst (n := 0) (zd (i := .iconst (0)) (n := 1) (by decide +kernel)) rfl) <|
  bb_istore_n (n := 3) (i := 3) (zd (i := .istore_n 3) (n := 1) (by decide +kernel)) rfl (by decide +kernel) (wkNl_i rfl) <|
  bb_iload_n (n := 1) (i := 1) (zd (i := .iload_n 1) (n := 1) (by decide +kernel)) rfl rfl <|
  bb_istore (i := 4) (zd (i := .istore 4) (n := 2) (by decide +kernel)) (by decide +kernel) (wkNl_i rfl) <|
  k
theorem w_X9_sumNow_5 {Q : qQ} {I : qMI} {L : qML} {R : qMR} {a1 : Int32} {a2 : Int32} {a3 : Int32} {a4 : Int32} (kt : (a1 + a2) ≤ a4 → wkB l G (d + 1) n_X9_sumNow Q 29 [.ref 292, .int a1, .int a2, .int a3, .int a4] [] I L R) (kf : ¬ (a1 + a2) ≤ a4 → wkB l G (d + 1) n_X9_sumNow Q 13 [.ref 292, .int a1, .int a2, .int a3, .int a4] [] I L R) : wkB l G (d + 1) n_X9_sumNow Q 5 [.ref 292, .int a1, .int a2, .int a3, .int a4] [] I L R :=
  bb_iload (i := 4) (zd (i := .iload 4) (n := 2) (by decide +kernel)) rfl <|
  bb_iload_n (n := 1) (i := 1) (zd (i := .iload_n 1) (n := 1) (by decide +kernel)) rfl rfl <|
  bb_iload_n (n := 2) (i := 2) (zd (i := .iload_n 2) (n := 1) (by decide +kernel)) rfl rfl <|
  bb_lift (fun _ => q_iadd (zd (i := .iadd) (n := 1) (by decide +kernel))) <|
  (fun lv hl => q_icmp_ge (off := 19) (tgt := 29) (zd (i := .if_icmp .ge (19)) (n := 3) (by decide +kernel)) (by decide) (fun h => (kt h) lv hl) (fun h => (kf h) lv hl))
theorem w_X9_sumNow_13 {Q : qQ} {I : qMI} {L : qML} {R : qMR} (hR : wkR R) {a1 : Int32} {a2 : Int32} {a3 : Int32} {a4 : Int32} (h1 : vp_in a4 97) (k : wkB l G (d + 1) n_X9_sumNow Q 5 [.ref 292, .int a1, .int a2, .int (a3 + (I 323 a4.toNatClampNeg)), .int (a4 + 1)] [] I L R) : wkB l G (d + 1) n_X9_sumNow Q 13 [.ref 292, .int a1, .int a2, .int a3, .int a4] [] I L R :=
  bb_iload_n (n := 3) (i := 3) (zd (i := .iload_n 3) (n := 1) (by decide +kernel)) rfl rfl <|
  bb_aload_n (n := 0) (i := 0) (zd (i := .aload_n 0) (n := 1) (by decide +kernel)) rfl rfl <|
  bb_getr (k := 292) (ci := 9) (j := 48) (idx := 110) (a := 323) (zd (i := .getfield 110) (n := 3) (by decide +kernel)) (by decide +kernel) (by decide +kernel) (by decide +kernel) (by decide +kernel) rfl g1176 (hR 48 (by decide)) <|
  bb_iload (i := 4) (zd (i := .iload 4) (n := 2) (by decide +kernel)) rfl <|
  bb_lift (fun _ => q_iald (k := 323) (zd (i := .iaload) (n := 1) (by decide +kernel)) (by decide +kernel) (by decide +kernel) h1) <|
  bb_lift (fun _ => q_iadd (zd (i := .iadd) (n := 1) (by decide +kernel))) <|
  bb_istore_n (n := 3) (i := 3) (zd (i := .istore_n 3) (n := 1) (by decide +kernel)) rfl (by decide +kernel) (wkNl_i rfl) <|
  bb_iinc (i := 4) (n := 1) (zd (i := .iinc 4 (1)) (n := 3) (by decide +kernel)) rfl rfl (by decide +kernel) (wkNl_i rfl) <|
  bb_lift (fun _ => q_goto (off := -21) (tgt := 5) (zd (i := .goto (-21)) (n := 3) (by decide +kernel)) (by decide)) k
theorem w_X9_sumNow_29 {Q : qQ} {I : qMI} {L : qML} {R : qMR} {a1 : Int32} {a2 : Int32} {a3 : Int32} {a4 : Int32} (hQ : Q (some (.int a3)) 336 I L R) : wkB l G (d + 1) n_X9_sumNow Q 29 [.ref 292, .int a1, .int a2, .int a3, .int a4] [] I L R :=
  bb_iload_n (n := 3) (i := 3) (zd (i := .iload_n 3) (n := 1) (by decide +kernel)) rfl rfl <|
  (fun lv hl => q_iret (zd (i := .ireturn) (n := 1) (by decide +kernel)) rfl rfl (Nat.le_refl _) (Nat.le_refl _) hQ)
theorem w_X9_movedBy_0 {Q : qQ} {I : qMI} {L : qML} {R : qMR} {a1 : Int32} {a2 : Int32} {a3 : Int32} {a4 : Int32} {P : qMI → qML → Prop} (hc : wkV l G d n_X9_looksAt [.ref 292, .int a1, .int a2, .int a3, .int a4] I L R P) (kk : ∀ I' L', P I' L' → wkB l G (d + 1) n_X9_movedBy Q 9 [.ref 292, .int a1, .int a2, .int a3, .int a4] [] I' L' R) : wkB l G (d + 1) n_X9_movedBy Q 0 [.ref 292, .int a1, .int a2, .int a3, .int a4] [] I L R :=
  bb_aload_n (n := 0) (i := 0) (zd (i := .aload_n 0) (n := 1) (by decide +kernel)) rfl rfl <|
  bb_iload_n (n := 1) (i := 1) (zd (i := .iload_n 1) (n := 1) (by decide +kernel)) rfl rfl <|
  bb_iload_n (n := 2) (i := 2) (zd (i := .iload_n 2) (n := 1) (by decide +kernel)) rfl rfl <|
  bb_iload_n (n := 3) (i := 3) (zd (i := .iload_n 3) (n := 1) (by decide +kernel)) rfl rfl <|
  bb_iload (i := 4) (zd (i := .iload 4) (n := 2) (by decide +kernel)) rfl <|
  bb_callVV (idx := 333) (k := 292) (ci := 9) (N := n_X9_looksAt) (As := [.int a1, .int a2, .int a3, .int a4]) (st := []) (zd (i := .invokevirtual 333) (n := 3) (by decide +kernel)) to_X9_looksAt g1457 g1459 g70 (Nat.le_of_ble_eq_true rfl) (by decide +kernel) (by decide +kernel) (by decide +kernel) rfl rfl rfl hc kk
theorem w_X9_movedBy_9 {Q : qQ} {I : qMI} {L : qML} {R : qMR} {a1 : Int32} {a2 : Int32} {a3 : Int32} {a4 : Int32} {P : Int32 → qMI → qML → Prop} (hc : wkI l G d n_X9_lawTells [.ref 292, .int 2, .int 0] I L R P) (kk : ∀ y I' L', P y I' L' → wkB l G (d + 1) n_X9_movedBy Q 15 [.ref 292, .int a1, .int a2, .int a3, .int a4] [.int y] I' L' R) : wkB l G (d + 1) n_X9_movedBy Q 9 [.ref 292, .int a1, .int a2, .int a3, .int a4] [] I L R :=
  bb_aload_n (n := 0) (i := 0) (zd (i := .aload_n 0) (n := 1) (by decide +kernel)) rfl rfl <|
  bb_lift (fun _ => q_iconst (n := 2) (zd (i := .iconst (2)) (n := 1) (by decide +kernel)) rfl) <|
  bb_lift (fun _ => q_iconst (n := 0) (zd (i := .iconst (0)) (n := 1) (by decide +kernel)) rfl) <|
  bb_callVI (idx := 321) (k := 292) (ci := 9) (N := n_X9_lawTells) (As := [.int 2, .int 0]) (st := []) (zd (i := .invokevirtual 321) (n := 3) (by decide +kernel)) to_X9_lawTells g1469 g1471 g73 (Nat.le_of_ble_eq_true rfl) (by decide +kernel) (by decide +kernel) (by decide +kernel) rfl rfl rfl hc kk
theorem w_X9_movedBy_15 {Q : qQ} {I : qMI} {L : qML} {R : qMR} {a1 : Int32} {a2 : Int32} {a3 : Int32} {a4 : Int32} {s0 : Int32} {P : Int32 → qMI → qML → Prop} (hc : wkI l G d n_X9_held [.int s0, .int (-9), .int 9] I L R P) (kk : ∀ y I' L', P y I' L' → wkB l G (d + 1) n_X9_movedBy Q 22 [.ref 292, .int a1, .int a2, .int a3, .int a4] [.int y] I' L' R) : wkB l G (d + 1) n_X9_movedBy Q 15 [.ref 292, .int a1, .int a2, .int a3, .int a4] [.int s0] I L R :=
  bb_lift (fun _ => q_bipush (n := -9) (zd (i := .bipush (-9)) (n := 2) (by decide +kernel)) rfl) <|
  bb_lift (fun _ => q_bipush (n := 9) (zd (i := .bipush (9)) (n := 2) (by decide +kernel)) rfl) <|
  bb_callSI (idx := 324) (N := n_X9_held) (As := [.int s0, .int (-9), .int 9]) (st := []) (zd (i := .invokestatic 324) (n := 3) (by decide +kernel)) to_X9_held g1477 g1478 (Nat.le_of_ble_eq_true rfl) rfl rfl hc kk
theorem w_X9_movedBy_22 {Q : qQ} {I : qMI} {L : qML} {R : qMR} {a1 : Int32} {a2 : Int32} {a3 : Int32} {a4 : Int32} {s0 : Int32} (hQ : Q (some (.int s0)) 336 I L R) : wkB l G (d + 1) n_X9_movedBy Q 22 [.ref 292, .int a1, .int a2, .int a3, .int a4] [.int s0] I L R :=
  (fun lv hl => q_iret (zd (i := .ireturn) (n := 1) (by decide +kernel)) rfl rfl (Nat.le_refl _) (Nat.le_refl _) hQ)
theorem w_X9_seenAt_0 {Q : qQ} {I : qMI} {L : qML} {R : qMR} {a1 : Int32} {a2 : Int32} {a3 : Int32} {a4 : Int32} {P : Int32 → qMI → qML → Prop} (hc : wkI l G d n_X9_isSeen [.ref 292, .int a1, .int a2, .int a3, .int a4] I L R P) (kk : ∀ y I' L', P y I' L' → wkB l G (d + 1) n_X9_seenAt Q 9 [.ref 292, .int a1, .int a2, .int a3, .int a4, wkU] [.int y] I' L' R) : wkB l G (d + 1) n_X9_seenAt Q 0 [.ref 292, .int a1, .int a2, .int a3, .int a4, wkU] [] I L R :=
  bb_aload_n (n := 0) (i := 0) (zd (i := .aload_n 0) (n := 1) (by decide +kernel)) rfl rfl <|
  bb_iload_n (n := 1) (i := 1) (zd (i := .iload_n 1) (n := 1) (by decide +kernel)) rfl rfl <|
  bb_iload_n (n := 2) (i := 2) (zd (i := .iload_n 2) (n := 1) (by decide +kernel)) rfl rfl <|
  bb_iload_n (n := 3) (i := 3) (zd (i := .iload_n 3) (n := 1) (by decide +kernel)) rfl rfl <|
  bb_iload (i := 4) (zd (i := .iload 4) (n := 2) (by decide +kernel)) rfl <|
  bb_callVI (idx := 337) (k := 292) (ci := 9) (N := n_X9_isSeen) (As := [.int a1, .int a2, .int a3, .int a4]) (st := []) (zd (i := .invokevirtual 337) (n := 3) (by decide +kernel)) to_X9_isSeen g1453 g1455 g69 (Nat.le_of_ble_eq_true rfl) (by decide +kernel) (by decide +kernel) (by decide +kernel) rfl rfl rfl hc kk
theorem w_X9_seenAt_9 {Q : qQ} {I : qMI} {L : qML} {R : qMR} {a1 : Int32} {a2 : Int32} {a3 : Int32} {a4 : Int32} {s0 : Int32} (kt : ¬ s0 = 0 → wkB l G (d + 1) n_X9_seenAt Q 15 [.ref 292, .int a1, .int a2, .int a3, .int a4, wkU] [] I L R) (kf : s0 = 0 → wkB l G (d + 1) n_X9_seenAt Q 12 [.ref 292, .int a1, .int a2, .int a3, .int a4, wkU] [] I L R) : wkB l G (d + 1) n_X9_seenAt Q 9 [.ref 292, .int a1, .int a2, .int a3, .int a4, wkU] [.int s0] I L R :=
  (fun lv hl => q_if_ne (off := 6) (tgt := 15) (zd (i := .ifCond .ne (6)) (n := 3) (by decide +kernel)) (by decide) (fun h => (kt h) lv hl) (fun h => (kf h) lv hl))
theorem w_X9_seenAt_12 {Q : qQ} {I : qMI} {L : qML} {R : qMR} {a1 : Int32} {a2 : Int32} {a3 : Int32} {a4 : Int32} (hQ : Q (some (.int (-2))) 336 I L R) : wkB l G (d + 1) n_X9_seenAt Q 12 [.ref 292, .int a1, .int a2, .int a3, .int a4, wkU] [] I L R :=
  bb_lift (fun _ => q_bipush (n := -2) (zd (i := .bipush (-2)) (n := 2) (by decide +kernel)) rfl) <|
  (fun lv hl => q_iret (zd (i := .ireturn) (n := 1) (by decide +kernel)) rfl rfl (Nat.le_refl _) (Nat.le_refl _) hQ)
theorem w_X9_seenAt_15 {Q : qQ} {I : qMI} {L : qML} {R : qMR} {a1 : Int32} {a2 : Int32} {a3 : Int32} {a4 : Int32} {P : Int32 → qMI → qML → Prop} (hc : wkI l G d n_X9_movedBy [.ref 292, .int a1, .int a2, .int a3, .int a4] I L R P) (kk : ∀ y I' L', P y I' L' → wkB l G (d + 1) n_X9_seenAt Q 24 [.ref 292, .int a1, .int a2, .int a3, .int a4, wkU] [.int y] I' L' R) : wkB l G (d + 1) n_X9_seenAt Q 15 [.ref 292, .int a1, .int a2, .int a3, .int a4, wkU] [] I L R :=
  bb_aload_n (n := 0) (i := 0) (zd (i := .aload_n 0) (n := 1) (by decide +kernel)) rfl rfl <|
  bb_iload_n (n := 1) (i := 1) (zd (i := .iload_n 1) (n := 1) (by decide +kernel)) rfl rfl <|
  bb_iload_n (n := 2) (i := 2) (zd (i := .iload_n 2) (n := 1) (by decide +kernel)) rfl rfl <|
  bb_iload_n (n := 3) (i := 3) (zd (i := .iload_n 3) (n := 1) (by decide +kernel)) rfl rfl <|
  bb_iload (i := 4) (zd (i := .iload 4) (n := 2) (by decide +kernel)) rfl <|
  bb_callVI (idx := 341) (k := 292) (ci := 9) (N := n_X9_movedBy) (As := [.int a1, .int a2, .int a3, .int a4]) (st := []) (zd (i := .invokevirtual 341) (n := 3) (by decide +kernel)) to_X9_movedBy g1510 g1512 g78 (Nat.le_of_ble_eq_true rfl) (by decide +kernel) (by decide +kernel) (by decide +kernel) rfl rfl rfl hc kk
theorem w_X9_seenAt_24 {Q : qQ} {I : qMI} {L : qML} {R : qMR} {a1 : Int32} {a2 : Int32} {a3 : Int32} {a4 : Int32} {s0 : Int32} (kt : a1 ≤ a2 → wkB l G (d + 1) n_X9_seenAt Q 38 [.ref 292, .int a1, .int a2, .int a3, .int a4, .int s0] [] I L R) (kf : ¬ a1 ≤ a2 → wkB l G (d + 1) n_X9_seenAt Q 31 [.ref 292, .int a1, .int a2, .int a3, .int a4, .int s0] [] I L R) : wkB l G (d + 1) n_X9_seenAt Q 24 [.ref 292, .int a1, .int a2, .int a3, .int a4, wkU] [.int s0] I L R :=
  bb_istore (i := 5) (zd (i := .istore 5) (n := 2) (by decide +kernel)) (by decide +kernel) (wkNl_i rfl) <|
  bb_iload_n (n := 2) (i := 2) (zd (i := .iload_n 2) (n := 1) (by decide +kernel)) rfl rfl <|
  bb_iload_n (n := 1) (i := 1) (zd (i := .iload_n 1) (n := 1) (by decide +kernel)) rfl rfl <|
  (fun lv hl => q_icmp_ge (off := 10) (tgt := 38) (zd (i := .if_icmp .ge (10)) (n := 3) (by decide +kernel)) (by decide) (fun h => (kt h) lv hl) (fun h => (kf h) lv hl))
theorem w_X9_seenAt_31 {Q : qQ} {I : qMI} {L : qML} {R : qMR} {a1 : Int32} {a2 : Int32} {a3 : Int32} {a4 : Int32} {a5 : Int32} (k : wkB l G (d + 1) n_X9_seenAt Q 42 [.ref 292, .int a1, .int a2, .int a3, .int a4, .int a5] [.int (a2 - a5)] I L R) : wkB l G (d + 1) n_X9_seenAt Q 31 [.ref 292, .int a1, .int a2, .int a3, .int a4, .int a5] [] I L R :=
  bb_iload_n (n := 2) (i := 2) (zd (i := .iload_n 2) (n := 1) (by decide +kernel)) rfl rfl <|
  bb_iload (i := 5) (zd (i := .iload 5) (n := 2) (by decide +kernel)) rfl <|
  bb_lift (fun _ => q_isub (zd (i := .isub) (n := 1) (by decide +kernel))) <|
  bb_lift (fun _ => q_goto (off := 7) (tgt := 42) (zd (i := .goto (7)) (n := 3) (by decide +kernel)) (by decide)) k
theorem w_X9_seenAt_38 {Q : qQ} {I : qMI} {L : qML} {R : qMR} {a1 : Int32} {a2 : Int32} {a3 : Int32} {a4 : Int32} {a5 : Int32} (k : wkB l G (d + 1) n_X9_seenAt Q 42 [.ref 292, .int a1, .int a2, .int a3, .int a4, .int a5] [.int (a2 + a5)] I L R) : wkB l G (d + 1) n_X9_seenAt Q 38 [.ref 292, .int a1, .int a2, .int a3, .int a4, .int a5] [] I L R :=
  bb_iload_n (n := 2) (i := 2) (zd (i := .iload_n 2) (n := 1) (by decide +kernel)) rfl rfl <|
  bb_iload (i := 5) (zd (i := .iload 5) (n := 2) (by decide +kernel)) rfl <|
  bb_lift (fun _ => q_iadd (zd (i := .iadd) (n := 1) (by decide +kernel))) <|
  k
theorem w_X9_seenAt_42 {Q : qQ} {I : qMI} {L : qML} {R : qMR} {a1 : Int32} {a2 : Int32} {a3 : Int32} {a4 : Int32} {a5 : Int32} {s0 : Int32} {P : Int32 → qMI → qML → Prop} (hc : wkI l G d n_X9_held [.int s0, .int 0, .int 19] I L R P) (kk : ∀ y I' L', P y I' L' → wkB l G (d + 1) n_X9_seenAt Q 48 [.ref 292, .int a1, .int a2, .int a3, .int a4, .int a5] [.int y] I' L' R) : wkB l G (d + 1) n_X9_seenAt Q 42 [.ref 292, .int a1, .int a2, .int a3, .int a4, .int a5] [.int s0] I L R :=
  bb_lift (fun _ => q_iconst (n := 0) (zd (i := .iconst (0)) (n := 1) (by decide +kernel)) rfl) <|
  bb_lift (fun _ => q_bipush (n := 19) (zd (i := .bipush (19)) (n := 2) (by decide +kernel)) rfl) <|
  bb_callSI (idx := 324) (N := n_X9_held) (As := [.int s0, .int 0, .int 19]) (st := []) (zd (i := .invokestatic 324) (n := 3) (by decide +kernel)) to_X9_held g1477 g1478 (Nat.le_of_ble_eq_true rfl) rfl rfl hc kk
theorem w_X9_seenAt_48 {Q : qQ} {I : qMI} {L : qML} {R : qMR} {a1 : Int32} {a2 : Int32} {a3 : Int32} {a4 : Int32} {a5 : Int32} {s0 : Int32} (hQ : Q (some (.int s0)) 336 I L R) : wkB l G (d + 1) n_X9_seenAt Q 48 [.ref 292, .int a1, .int a2, .int a3, .int a4, .int a5] [.int s0] I L R :=
  (fun lv hl => q_iret (zd (i := .ireturn) (n := 1) (by decide +kernel)) rfl rfl (Nat.le_refl _) (Nat.le_refl _) hQ)
theorem w_X9_sightOf_0 {Q : qQ} {I : qMI} {L : qML} {R : qMR} (hR : wkR R) {a1 : Int32} {a2 : Int32} {a3 : Int32} (h1 : vp_in ((6 * (I 292 18)) + a2) 12) (h2 : vp_in ((6 * (I 292 18)) + a2) 12) {P : Int32 → qMI → qML → Prop} (hc : wkI l G d n_X9_seenAt [.ref 292, .int a1, .int (I 302 ((6 * (I 292 18)) + a2).toNatClampNeg), .int (I 303 ((6 * (I 292 18)) + a2).toNatClampNeg), .int a3] I L R P) (kk : ∀ y I' L', P y I' L' → wkB l G (d + 1) n_X9_sightOf Q 34 [.ref 292, .int a1, .int a2, .int a3] [.int y] I' L' R) : wkB l G (d + 1) n_X9_sightOf Q 0 [.ref 292, .int a1, .int a2, .int a3] [] I L R :=
  bb_aload_n (n := 0) (i := 0) (zd (i := .aload_n 0) (n := 1) (by decide +kernel)) rfl rfl <|
  bb_iload_n (n := 1) (i := 1) (zd (i := .iload_n 1) (n := 1) (by decide +kernel)) rfl rfl <|
  bb_aload_n (n := 0) (i := 0) (zd (i := .aload_n 0) (n := 1) (by decide +kernel)) rfl rfl <|
  bb_getr (k := 292) (ci := 9) (j := 23) (idx := 46) (a := 302) (zd (i := .getfield 46) (n := 3) (by decide +kernel)) (by decide +kernel) (by decide +kernel) (by decide +kernel) (by decide +kernel) rfl g1151 (hR 23 (by decide)) <|
  bb_lift (fun _ => q_bipush (n := 6) (zd (i := .bipush (6)) (n := 2) (by decide +kernel)) rfl) <|
  bb_aload_n (n := 0) (i := 0) (zd (i := .aload_n 0) (n := 1) (by decide +kernel)) rfl rfl <|
  bb_geti (k := 292) (ci := 9) (j := 18) (idx := 230) (zd (i := .getfield 230) (n := 3) (by decide +kernel)) (by decide +kernel) (by decide +kernel) (by decide +kernel) (by decide +kernel) rfl g1146 <|
  bb_lift (fun _ => q_imul (zd (i := .imul) (n := 1) (by decide +kernel))) <|
  bb_iload_n (n := 2) (i := 2) (zd (i := .iload_n 2) (n := 1) (by decide +kernel)) rfl rfl <|
  bb_lift (fun _ => q_iadd (zd (i := .iadd) (n := 1) (by decide +kernel))) <|
  bb_lift (fun _ => q_iald (k := 302) (zd (i := .iaload) (n := 1) (by decide +kernel)) (by decide +kernel) (by decide +kernel) h1) <|
  bb_aload_n (n := 0) (i := 0) (zd (i := .aload_n 0) (n := 1) (by decide +kernel)) rfl rfl <|
  bb_getr (k := 292) (ci := 9) (j := 24) (idx := 49) (a := 303) (zd (i := .getfield 49) (n := 3) (by decide +kernel)) (by decide +kernel) (by decide +kernel) (by decide +kernel) (by decide +kernel) rfl g1152 (hR 24 (by decide)) <|
  bb_lift (fun _ => q_bipush (n := 6) (zd (i := .bipush (6)) (n := 2) (by decide +kernel)) rfl) <|
  bb_aload_n (n := 0) (i := 0) (zd (i := .aload_n 0) (n := 1) (by decide +kernel)) rfl rfl <|
  bb_geti (k := 292) (ci := 9) (j := 18) (idx := 230) (zd (i := .getfield 230) (n := 3) (by decide +kernel)) (by decide +kernel) (by decide +kernel) (by decide +kernel) (by decide +kernel) rfl g1146 <|
  bb_lift (fun _ => q_imul (zd (i := .imul) (n := 1) (by decide +kernel))) <|
  bb_iload_n (n := 2) (i := 2) (zd (i := .iload_n 2) (n := 1) (by decide +kernel)) rfl rfl <|
  bb_lift (fun _ => q_iadd (zd (i := .iadd) (n := 1) (by decide +kernel))) <|
  bb_lift (fun _ => q_iald (k := 303) (zd (i := .iaload) (n := 1) (by decide +kernel)) (by decide +kernel) (by decide +kernel) h2) <|
  bb_iload_n (n := 3) (i := 3) (zd (i := .iload_n 3) (n := 1) (by decide +kernel)) rfl rfl <|
  bb_callVI (idx := 345) (k := 292) (ci := 9) (N := n_X9_seenAt) (As := [.int a1, .int (I 302 ((6 * (I 292 18)) + a2).toNatClampNeg), .int (I 303 ((6 * (I 292 18)) + a2).toNatClampNeg), .int a3]) (st := []) (zd (i := .invokevirtual 345) (n := 3) (by decide +kernel)) to_X9_seenAt g1582 g1584 g88 (Nat.le_of_ble_eq_true rfl) (by decide +kernel) (by decide +kernel) (by decide +kernel) rfl rfl rfl hc kk
theorem w_X9_sightOf_34 {Q : qQ} {I : qMI} {L : qML} {R : qMR} {a1 : Int32} {a2 : Int32} {a3 : Int32} {s0 : Int32} (hQ : Q (some (.int s0)) 336 I L R) : wkB l G (d + 1) n_X9_sightOf Q 34 [.ref 292, .int a1, .int a2, .int a3] [.int s0] I L R :=
  (fun lv hl => q_iret (zd (i := .ireturn) (n := 1) (by decide +kernel)) rfl rfl (Nat.le_refl _) (Nat.le_refl _) hQ)
theorem w_X9_thing_0 {Q : qQ} {I : qMI} {L : qML} {R : qMR} {a1 : Int32} {a2 : Int32} {P : Int32 → qMI → qML → Prop} (hc : wkI l G d n_X9_isThing [.ref 292, .int a1] I L R P) (kk : ∀ y I' L', P y I' L' → wkB l G (d + 1) n_X9_thing Q 5 [.ref 292, .int a1, .int a2, wkU, wkU] [.int y] I' L' R) : wkB l G (d + 1) n_X9_thing Q 0 [.ref 292, .int a1, .int a2, wkU, wkU] [] I L R :=
  bb_aload_n (n := 0) (i := 0) (zd (i := .aload_n 0) (n := 1) (by decide +kernel)) rfl rfl <|
  bb_iload_n (n := 1) (i := 1) (zd (i := .iload_n 1) (n := 1) (by decide +kernel)) rfl rfl <|
  bb_callVI (idx := 372) (k := 292) (ci := 9) (N := n_X9_isThing) (As := [.int a1]) (st := []) (zd (i := .invokevirtual 372) (n := 3) (by decide +kernel)) to_X9_isThing g1438 g1440 g66 (Nat.le_of_ble_eq_true rfl) (by decide +kernel) (by decide +kernel) (by decide +kernel) rfl rfl rfl hc kk
theorem w_X9_thing_5 {Q : qQ} {I : qMI} {L : qML} {R : qMR} {a1 : Int32} {a2 : Int32} {s0 : Int32} (kt : ¬ s0 = 0 → wkB l G (d + 1) n_X9_thing Q 10 [.ref 292, .int a1, .int a2, wkU, wkU] [] I L R) (kf : s0 = 0 → wkB l G (d + 1) n_X9_thing Q 8 [.ref 292, .int a1, .int a2, wkU, wkU] [] I L R) : wkB l G (d + 1) n_X9_thing Q 5 [.ref 292, .int a1, .int a2, wkU, wkU] [.int s0] I L R :=
  (fun lv hl => q_if_ne (off := 5) (tgt := 10) (zd (i := .ifCond .ne (5)) (n := 3) (by decide +kernel)) (by decide) (fun h => (kt h) lv hl) (fun h => (kf h) lv hl))
theorem w_X9_thing_8 {Q : qQ} {I : qMI} {L : qML} {R : qMR} {a1 : Int32} {a2 : Int32} (hQ : Q (some (.int (-1))) 336 I L R) : wkB l G (d + 1) n_X9_thing Q 8 [.ref 292, .int a1, .int a2, wkU, wkU] [] I L R :=
  bb_lift (fun _ => q_iconst (n := -1) (zd (i := .iconst (-1)) (n := 1) (by decide +kernel)) rfl) <|
  (fun lv hl => q_iret (zd (i := .ireturn) (n := 1) (by decide +kernel)) rfl rfl (Nat.le_refl _) (Nat.le_refl _) hQ)
theorem w_X9_thing_10 {Q : qQ} {I : qMI} {L : qML} {R : qMR} {a1 : Int32} {a2 : Int32} {P : qMI → qML → Prop} (hc : wkV l G d n_X9_copies [.ref 292] I L R P) (kk : ∀ I' L', P I' L' → wkB l G (d + 1) n_X9_thing Q 14 [.ref 292, .int a1, .int a2, wkU, wkU] [] I' L' R) : wkB l G (d + 1) n_X9_thing Q 10 [.ref 292, .int a1, .int a2, wkU, wkU] [] I L R :=
  bb_aload_n (n := 0) (i := 0) (zd (i := .aload_n 0) (n := 1) (by decide +kernel)) rfl rfl <|
  bb_callVV (idx := 375) (k := 292) (ci := 9) (N := n_X9_copies) (As := []) (st := []) (zd (i := .invokevirtual 375) (n := 3) (by decide +kernel)) to_X9_copies g1445 g1447 g67 (Nat.le_of_ble_eq_true rfl) (by decide +kernel) (by decide +kernel) (by decide +kernel) rfl rfl rfl hc kk
theorem w_X9_thing_14 {Q : qQ} {I : qMI} {L : qML} {R : qMR} {a1 : Int32} {a2 : Int32} (k : qSwt (fun tg => wkB l G (d + 1) n_X9_thing Q tg [.ref 292, .int a1, .int a2, .int 0, wkU] [] I L R) a2 0 [48, 63, 78, 132] 182) : wkB l G (d + 1) n_X9_thing Q 14 [.ref 292, .int a1, .int a2, wkU, wkU] [] I L R :=
  bb_lift (fun _ => q_iconst (n := 0) (zd (i := .iconst (0)) (n := 1) (by decide +kernel)) rfl) <|
  bb_istore_n (n := 3) (i := 3) (zd (i := .istore_n 3) (n := 1) (by decide +kernel)) rfl (by decide +kernel) (wkNl_i rfl) <|
  bb_iload_n (n := 2) (i := 2) (zd (i := .iload_n 2) (n := 1) (by decide +kernel)) rfl rfl <|
  bb_table (v := 0) (df := 182) (len := 31) (dflt := 165) (lo := 0) (hi := 3) (offs := #[31, 46, 61, 115]) (tgts := [48, 63, 78, 132]) (zd (i := .tableswitch (165) (0) (3) #[31, 46, 61, 115]) (n := 31) (by decide +kernel)) rfl rfl (by decide +kernel) (by decide +kernel) (by decide +kernel) k
theorem w_X9_thing_48 {Q : qQ} {I : qMI} {L : qML} {R : qMR} (hR : wkR R) {a1 : Int32} {a2 : Int32} {a3 : Int32} (h1 : vp_in ((6 * (I 292 18)) + a1) 12) (hQ : Q (some (.int (I 302 ((6 * (I 292 18)) + a1).toNatClampNeg))) 336 I L R) : wkB l G (d + 1) n_X9_thing Q 48 [.ref 292, .int a1, .int a2, .int a3, wkU] [] I L R :=
  bb_aload_n (n := 0) (i := 0) (zd (i := .aload_n 0) (n := 1) (by decide +kernel)) rfl rfl <|
  bb_getr (k := 292) (ci := 9) (j := 23) (idx := 46) (a := 302) (zd (i := .getfield 46) (n := 3) (by decide +kernel)) (by decide +kernel) (by decide +kernel) (by decide +kernel) (by decide +kernel) rfl g1151 (hR 23 (by decide)) <|
  bb_lift (fun _ => q_bipush (n := 6) (zd (i := .bipush (6)) (n := 2) (by decide +kernel)) rfl) <|
  bb_aload_n (n := 0) (i := 0) (zd (i := .aload_n 0) (n := 1) (by decide +kernel)) rfl rfl <|
  bb_geti (k := 292) (ci := 9) (j := 18) (idx := 230) (zd (i := .getfield 230) (n := 3) (by decide +kernel)) (by decide +kernel) (by decide +kernel) (by decide +kernel) (by decide +kernel) rfl g1146 <|
  bb_lift (fun _ => q_imul (zd (i := .imul) (n := 1) (by decide +kernel))) <|
  bb_iload_n (n := 1) (i := 1) (zd (i := .iload_n 1) (n := 1) (by decide +kernel)) rfl rfl <|
  bb_lift (fun _ => q_iadd (zd (i := .iadd) (n := 1) (by decide +kernel))) <|
  bb_lift (fun _ => q_iald (k := 302) (zd (i := .iaload) (n := 1) (by decide +kernel)) (by decide +kernel) (by decide +kernel) h1) <|
  (fun lv hl => q_iret (zd (i := .ireturn) (n := 1) (by decide +kernel)) rfl rfl (Nat.le_refl _) (Nat.le_refl _) hQ)
theorem w_X9_thing_63 {Q : qQ} {I : qMI} {L : qML} {R : qMR} (hR : wkR R) {a1 : Int32} {a2 : Int32} {a3 : Int32} (h1 : vp_in ((6 * (I 292 18)) + a1) 12) (hQ : Q (some (.int (I 303 ((6 * (I 292 18)) + a1).toNatClampNeg))) 336 I L R) : wkB l G (d + 1) n_X9_thing Q 63 [.ref 292, .int a1, .int a2, .int a3, wkU] [] I L R :=
  bb_aload_n (n := 0) (i := 0) (zd (i := .aload_n 0) (n := 1) (by decide +kernel)) rfl rfl <|
  bb_getr (k := 292) (ci := 9) (j := 24) (idx := 49) (a := 303) (zd (i := .getfield 49) (n := 3) (by decide +kernel)) (by decide +kernel) (by decide +kernel) (by decide +kernel) (by decide +kernel) rfl g1152 (hR 24 (by decide)) <|
  bb_lift (fun _ => q_bipush (n := 6) (zd (i := .bipush (6)) (n := 2) (by decide +kernel)) rfl) <|
  bb_aload_n (n := 0) (i := 0) (zd (i := .aload_n 0) (n := 1) (by decide +kernel)) rfl rfl <|
  bb_geti (k := 292) (ci := 9) (j := 18) (idx := 230) (zd (i := .getfield 230) (n := 3) (by decide +kernel)) (by decide +kernel) (by decide +kernel) (by decide +kernel) (by decide +kernel) rfl g1146 <|
  bb_lift (fun _ => q_imul (zd (i := .imul) (n := 1) (by decide +kernel))) <|
  bb_iload_n (n := 1) (i := 1) (zd (i := .iload_n 1) (n := 1) (by decide +kernel)) rfl rfl <|
  bb_lift (fun _ => q_iadd (zd (i := .iadd) (n := 1) (by decide +kernel))) <|
  bb_lift (fun _ => q_iald (k := 303) (zd (i := .iaload) (n := 1) (by decide +kernel)) (by decide +kernel) (by decide +kernel) h1) <|
  (fun lv hl => q_iret (zd (i := .ireturn) (n := 1) (by decide +kernel)) rfl rfl (Nat.le_refl _) (Nat.le_refl _) hQ)
theorem w_X9_thing_78 {Q : qQ} {I : qMI} {L : qML} {R : qMR} {a1 : Int32} {a2 : Int32} {a3 : Int32} (k : wkB l G (d + 1) n_X9_thing Q 81 [.ref 292, .int a1, .int a2, .int a3, .int 0] [] I L R) : wkB l G (d + 1) n_X9_thing Q 78 [.ref 292, .int a1, .int a2, .int a3, wkU] [] I L R :=
  bb_lift (fun _ => q_iconst (n := 0) (zd (i := .iconst (0)) (n := 1) (by decide +kernel)) rfl) <|
  bb_istore (i := 4) (zd (i := .istore 4) (n := 2) (by decide +kernel)) (by decide +kernel) (wkNl_i rfl) <|
  k
theorem w_X9_thing_81 {Q : qQ} {I : qMI} {L : qML} {R : qMR} (hR : wkR R) {a1 : Int32} {a2 : Int32} {a3 : Int32} {a4 : Int32} (h1 : vp_in (I 292 18) 2) (kt : (I 304 (I 292 18).toNatClampNeg) ≤ a4 → wkB l G (d + 1) n_X9_thing Q 130 [.ref 292, .int a1, .int a2, .int a3, .int a4] [] I L R) (kf : ¬ (I 304 (I 292 18).toNatClampNeg) ≤ a4 → wkB l G (d + 1) n_X9_thing Q 95 [.ref 292, .int a1, .int a2, .int a3, .int a4] [] I L R) : wkB l G (d + 1) n_X9_thing Q 81 [.ref 292, .int a1, .int a2, .int a3, .int a4] [] I L R :=
  bb_iload (i := 4) (zd (i := .iload 4) (n := 2) (by decide +kernel)) rfl <|
  bb_aload_n (n := 0) (i := 0) (zd (i := .aload_n 0) (n := 1) (by decide +kernel)) rfl rfl <|
  bb_getr (k := 292) (ci := 9) (j := 25) (idx := 52) (a := 304) (zd (i := .getfield 52) (n := 3) (by decide +kernel)) (by decide +kernel) (by decide +kernel) (by decide +kernel) (by decide +kernel) rfl g1153 (hR 25 (by decide)) <|
  bb_aload_n (n := 0) (i := 0) (zd (i := .aload_n 0) (n := 1) (by decide +kernel)) rfl rfl <|
  bb_geti (k := 292) (ci := 9) (j := 18) (idx := 230) (zd (i := .getfield 230) (n := 3) (by decide +kernel)) (by decide +kernel) (by decide +kernel) (by decide +kernel) (by decide +kernel) rfl g1146 <|
  bb_lift (fun _ => q_iald (k := 304) (zd (i := .iaload) (n := 1) (by decide +kernel)) (by decide +kernel) (by decide +kernel) h1) <|
  (fun lv hl => q_icmp_ge (off := 38) (tgt := 130) (zd (i := .if_icmp .ge (38)) (n := 3) (by decide +kernel)) (by decide) (fun h => (kt h) lv hl) (fun h => (kf h) lv hl))
theorem w_X9_thing_95 {Q : qQ} {I : qMI} {L : qML} {R : qMR} (hR : wkR R) {a1 : Int32} {a2 : Int32} {a3 : Int32} {a4 : Int32} (h1 : vp_in a4 97) (h2 : vp_in 96 97) {P : Int32 → qMI → qML → Prop} (hc : wkI l G d n_X9_sees [.ref 292, .int (I 324 a4.toNatClampNeg), .int a1, .int (I 324 (96 : Int32).toNatClampNeg)] I L R P) (kk : ∀ y I' L', P y I' L' → wkB l G (d + 1) n_X9_thing Q 114 [.ref 292, .int a1, .int a2, .int a3, .int a4] [.int y] I' L' R) : wkB l G (d + 1) n_X9_thing Q 95 [.ref 292, .int a1, .int a2, .int a3, .int a4] [] I L R :=
  bb_aload_n (n := 0) (i := 0) (zd (i := .aload_n 0) (n := 1) (by decide +kernel)) rfl rfl <|
  bb_aload_n (n := 0) (i := 0) (zd (i := .aload_n 0) (n := 1) (by decide +kernel)) rfl rfl <|
  bb_getr (k := 292) (ci := 9) (j := 49) (idx := 113) (a := 324) (zd (i := .getfield 113) (n := 3) (by decide +kernel)) (by decide +kernel) (by decide +kernel) (by decide +kernel) (by decide +kernel) rfl g1177 (hR 49 (by decide)) <|
  bb_iload (i := 4) (zd (i := .iload 4) (n := 2) (by decide +kernel)) rfl <|
  bb_lift (fun _ => q_iald (k := 324) (zd (i := .iaload) (n := 1) (by decide +kernel)) (by decide +kernel) (by decide +kernel) h1) <|
  bb_iload_n (n := 1) (i := 1) (zd (i := .iload_n 1) (n := 1) (by decide +kernel)) rfl rfl <|
  bb_aload_n (n := 0) (i := 0) (zd (i := .aload_n 0) (n := 1) (by decide +kernel)) rfl rfl <|
  bb_getr (k := 292) (ci := 9) (j := 49) (idx := 113) (a := 324) (zd (i := .getfield 113) (n := 3) (by decide +kernel)) (by decide +kernel) (by decide +kernel) (by decide +kernel) (by decide +kernel) rfl g1177 (hR 49 (by decide)) <|
  bb_lift (fun _ => q_bipush (n := 96) (zd (i := .bipush (96)) (n := 2) (by decide +kernel)) rfl) <|
  bb_lift (fun _ => q_iald (k := 324) (zd (i := .iaload) (n := 1) (by decide +kernel)) (by decide +kernel) (by decide +kernel) h2) <|
  bb_callVI (idx := 352) (k := 292) (ci := 9) (N := n_X9_sees) (As := [.int (I 324 a4.toNatClampNeg), .int a1, .int (I 324 (96 : Int32).toNatClampNeg)]) (st := []) (zd (i := .invokevirtual 352) (n := 3) (by decide +kernel)) to_X9_sees g1449 g1451 g68 (Nat.le_of_ble_eq_true rfl) (by decide +kernel) (by decide +kernel) (by decide +kernel) rfl rfl rfl hc kk
theorem w_X9_thing_114 {Q : qQ} {I : qMI} {L : qML} {R : qMR} {a1 : Int32} {a2 : Int32} {a3 : Int32} {a4 : Int32} {s0 : Int32} (kt : s0 = 0 → wkB l G (d + 1) n_X9_thing Q 124 [.ref 292, .int a1, .int a2, .int a3, .int a4] [] I L R) (kf : ¬ s0 = 0 → wkB l G (d + 1) n_X9_thing Q 117 [.ref 292, .int a1, .int a2, .int a3, .int a4] [] I L R) : wkB l G (d + 1) n_X9_thing Q 114 [.ref 292, .int a1, .int a2, .int a3, .int a4] [.int s0] I L R :=
  (fun lv hl => q_if_eq (off := 10) (tgt := 124) (zd (i := .ifCond .eq (10)) (n := 3) (by decide +kernel)) (by decide) (fun h => (kt h) lv hl) (fun h => (kf h) lv hl))
theorem w_X9_thing_117 {Q : qQ} {I : qMI} {L : qML} {R : qMR} {a1 : Int32} {a2 : Int32} {a3 : Int32} {a4 : Int32} (k : wkB l G (d + 1) n_X9_thing Q 124 [.ref 292, .int a1, .int a2, .int (a3 ||| (1 <<< (a4 &&& 31))), .int a4] [] I L R) : wkB l G (d + 1) n_X9_thing Q 117 [.ref 292, .int a1, .int a2, .int a3, .int a4] [] I L R :=
  bb_iload_n (n := 3) (i := 3) (zd (i := .iload_n 3) (n := 1) (by decide +kernel)) rfl rfl <|
  bb_lift (fun _ => q_iconst (n := 1) (zd (i := .iconst (1)) (n := 1) (by decide +kernel)) rfl) <|
  bb_iload (i := 4) (zd (i := .iload 4) (n := 2) (by decide +kernel)) rfl <|
  bb_lift (fun _ => q_ishl (zd (i := .ishl) (n := 1) (by decide +kernel))) <|
  bb_lift (fun _ => q_ior (zd (i := .ior) (n := 1) (by decide +kernel))) <|
  bb_istore_n (n := 3) (i := 3) (zd (i := .istore_n 3) (n := 1) (by decide +kernel)) rfl (by decide +kernel) (wkNl_i rfl) <|
  k
theorem w_X9_thing_124 {Q : qQ} {I : qMI} {L : qML} {R : qMR} {a1 : Int32} {a2 : Int32} {a3 : Int32} {a4 : Int32} (k : wkB l G (d + 1) n_X9_thing Q 81 [.ref 292, .int a1, .int a2, .int a3, .int (a4 + 1)] [] I L R) : wkB l G (d + 1) n_X9_thing Q 124 [.ref 292, .int a1, .int a2, .int a3, .int a4] [] I L R :=
  bb_iinc (i := 4) (n := 1) (zd (i := .iinc 4 (1)) (n := 3) (by decide +kernel)) rfl rfl (by decide +kernel) (wkNl_i rfl) <|
  bb_lift (fun _ => q_goto (off := -46) (tgt := 81) (zd (i := .goto (-46)) (n := 3) (by decide +kernel)) (by decide)) k
theorem w_X9_thing_130 {Q : qQ} {I : qMI} {L : qML} {R : qMR} {a1 : Int32} {a2 : Int32} {a3 : Int32} {a4 : Int32} (hQ : Q (some (.int a3)) 336 I L R) : wkB l G (d + 1) n_X9_thing Q 130 [.ref 292, .int a1, .int a2, .int a3, .int a4] [] I L R :=
  bb_iload_n (n := 3) (i := 3) (zd (i := .iload_n 3) (n := 1) (by decide +kernel)) rfl rfl <|
  (fun lv hl => q_iret (zd (i := .ireturn) (n := 1) (by decide +kernel)) rfl rfl (Nat.le_refl _) (Nat.le_refl _) hQ)
theorem w_X9_thing_132 {Q : qQ} {I : qMI} {L : qML} {R : qMR} {a1 : Int32} {a2 : Int32} {a3 : Int32} (k : wkB l G (d + 1) n_X9_thing Q 135 [.ref 292, .int a1, .int a2, .int a3, .int 0] [] I L R) : wkB l G (d + 1) n_X9_thing Q 132 [.ref 292, .int a1, .int a2, .int a3, wkU] [] I L R :=
  bb_lift (fun _ => q_iconst (n := 0) (zd (i := .iconst (0)) (n := 1) (by decide +kernel)) rfl) <|
  bb_istore (i := 4) (zd (i := .istore 4) (n := 2) (by decide +kernel)) (by decide +kernel) (wkNl_i rfl) <|
  k
theorem w_X9_thing_135 {Q : qQ} {I : qMI} {L : qML} {R : qMR} (hR : wkR R) {a1 : Int32} {a2 : Int32} {a3 : Int32} {a4 : Int32} (h1 : vp_in (I 292 18) 2) (kt : (I 304 (I 292 18).toNatClampNeg) ≤ a4 → wkB l G (d + 1) n_X9_thing Q 180 [.ref 292, .int a1, .int a2, .int a3, .int a4] [] I L R) (kf : ¬ (I 304 (I 292 18).toNatClampNeg) ≤ a4 → wkB l G (d + 1) n_X9_thing Q 149 [.ref 292, .int a1, .int a2, .int a3, .int a4] [] I L R) : wkB l G (d + 1) n_X9_thing Q 135 [.ref 292, .int a1, .int a2, .int a3, .int a4] [] I L R :=
  bb_iload (i := 4) (zd (i := .iload 4) (n := 2) (by decide +kernel)) rfl <|
  bb_aload_n (n := 0) (i := 0) (zd (i := .aload_n 0) (n := 1) (by decide +kernel)) rfl rfl <|
  bb_getr (k := 292) (ci := 9) (j := 25) (idx := 52) (a := 304) (zd (i := .getfield 52) (n := 3) (by decide +kernel)) (by decide +kernel) (by decide +kernel) (by decide +kernel) (by decide +kernel) rfl g1153 (hR 25 (by decide)) <|
  bb_aload_n (n := 0) (i := 0) (zd (i := .aload_n 0) (n := 1) (by decide +kernel)) rfl rfl <|
  bb_geti (k := 292) (ci := 9) (j := 18) (idx := 230) (zd (i := .getfield 230) (n := 3) (by decide +kernel)) (by decide +kernel) (by decide +kernel) (by decide +kernel) (by decide +kernel) rfl g1146 <|
  bb_lift (fun _ => q_iald (k := 304) (zd (i := .iaload) (n := 1) (by decide +kernel)) (by decide +kernel) (by decide +kernel) h1) <|
  (fun lv hl => q_icmp_ge (off := 34) (tgt := 180) (zd (i := .if_icmp .ge (34)) (n := 3) (by decide +kernel)) (by decide) (fun h => (kt h) lv hl) (fun h => (kf h) lv hl))
theorem w_X9_thing_149 {Q : qQ} {I : qMI} {L : qML} {R : qMR} (hR : wkR R) {a1 : Int32} {a2 : Int32} {a3 : Int32} {a4 : Int32} (h1 : vp_in ((24 + (6 * a4)) + a1) 97) (kt : (I 324 ((24 + (6 * a4)) + a1).toNatClampNeg) ≤ 0 → wkB l G (d + 1) n_X9_thing Q 174 [.ref 292, .int a1, .int a2, .int a3, .int a4] [] I L R) (kf : ¬ (I 324 ((24 + (6 * a4)) + a1).toNatClampNeg) ≤ 0 → wkB l G (d + 1) n_X9_thing Q 167 [.ref 292, .int a1, .int a2, .int a3, .int a4] [] I L R) : wkB l G (d + 1) n_X9_thing Q 149 [.ref 292, .int a1, .int a2, .int a3, .int a4] [] I L R :=
  bb_aload_n (n := 0) (i := 0) (zd (i := .aload_n 0) (n := 1) (by decide +kernel)) rfl rfl <|
  bb_getr (k := 292) (ci := 9) (j := 49) (idx := 113) (a := 324) (zd (i := .getfield 113) (n := 3) (by decide +kernel)) (by decide +kernel) (by decide +kernel) (by decide +kernel) (by decide +kernel) rfl g1177 (hR 49 (by decide)) <|
  bb_lift (fun _ => q_bipush (n := 24) (zd (i := .bipush (24)) (n := 2) (by decide +kernel)) rfl) <|
  bb_lift (fun _ => q_bipush (n := 6) (zd (i := .bipush (6)) (n := 2) (by decide +kernel)) rfl) <|
  bb_iload (i := 4) (zd (i := .iload 4) (n := 2) (by decide +kernel)) rfl <|
  bb_lift (fun _ => q_imul (zd (i := .imul) (n := 1) (by decide +kernel))) <|
  bb_lift (fun _ => q_iadd (zd (i := .iadd) (n := 1) (by decide +kernel))) <|
  bb_iload_n (n := 1) (i := 1) (zd (i := .iload_n 1) (n := 1) (by decide +kernel)) rfl rfl <|
  bb_lift (fun _ => q_iadd (zd (i := .iadd) (n := 1) (by decide +kernel))) <|
  bb_lift (fun _ => q_iald (k := 324) (zd (i := .iaload) (n := 1) (by decide +kernel)) (by decide +kernel) (by decide +kernel) h1) <|
  (fun lv hl => q_if_le (off := 10) (tgt := 174) (zd (i := .ifCond .le (10)) (n := 3) (by decide +kernel)) (by decide) (fun h => (kt h) lv hl) (fun h => (kf h) lv hl))
theorem w_X9_thing_167 {Q : qQ} {I : qMI} {L : qML} {R : qMR} {a1 : Int32} {a2 : Int32} {a3 : Int32} {a4 : Int32} (k : wkB l G (d + 1) n_X9_thing Q 174 [.ref 292, .int a1, .int a2, .int (a3 ||| (1 <<< (a4 &&& 31))), .int a4] [] I L R) : wkB l G (d + 1) n_X9_thing Q 167 [.ref 292, .int a1, .int a2, .int a3, .int a4] [] I L R :=
  bb_iload_n (n := 3) (i := 3) (zd (i := .iload_n 3) (n := 1) (by decide +kernel)) rfl rfl <|
  bb_lift (fun _ => q_iconst (n := 1) (zd (i := .iconst (1)) (n := 1) (by decide +kernel)) rfl) <|
  bb_iload (i := 4) (zd (i := .iload 4) (n := 2) (by decide +kernel)) rfl <|
  bb_lift (fun _ => q_ishl (zd (i := .ishl) (n := 1) (by decide +kernel))) <|
  bb_lift (fun _ => q_ior (zd (i := .ior) (n := 1) (by decide +kernel))) <|
  bb_istore_n (n := 3) (i := 3) (zd (i := .istore_n 3) (n := 1) (by decide +kernel)) rfl (by decide +kernel) (wkNl_i rfl) <|
  k
theorem w_X9_thing_174 {Q : qQ} {I : qMI} {L : qML} {R : qMR} {a1 : Int32} {a2 : Int32} {a3 : Int32} {a4 : Int32} (k : wkB l G (d + 1) n_X9_thing Q 135 [.ref 292, .int a1, .int a2, .int a3, .int (a4 + 1)] [] I L R) : wkB l G (d + 1) n_X9_thing Q 174 [.ref 292, .int a1, .int a2, .int a3, .int a4] [] I L R :=
  bb_iinc (i := 4) (n := 1) (zd (i := .iinc 4 (1)) (n := 3) (by decide +kernel)) rfl rfl (by decide +kernel) (wkNl_i rfl) <|
  bb_lift (fun _ => q_goto (off := -42) (tgt := 135) (zd (i := .goto (-42)) (n := 3) (by decide +kernel)) (by decide)) k
theorem w_X9_thing_180 {Q : qQ} {I : qMI} {L : qML} {R : qMR} {a1 : Int32} {a2 : Int32} {a3 : Int32} {a4 : Int32} (hQ : Q (some (.int a3)) 336 I L R) : wkB l G (d + 1) n_X9_thing Q 180 [.ref 292, .int a1, .int a2, .int a3, .int a4] [] I L R :=
  bb_iload_n (n := 3) (i := 3) (zd (i := .iload_n 3) (n := 1) (by decide +kernel)) rfl rfl <|
  (fun lv hl => q_iret (zd (i := .ireturn) (n := 1) (by decide +kernel)) rfl rfl (Nat.le_refl _) (Nat.le_refl _) hQ)
theorem w_X9_thing_182 {Q : qQ} {I : qMI} {L : qML} {R : qMR} {a1 : Int32} {a2 : Int32} {a3 : Int32} (hQ : Q (some (.int (-1))) 336 I L R) : wkB l G (d + 1) n_X9_thing Q 182 [.ref 292, .int a1, .int a2, .int a3, wkU] [] I L R :=
  bb_lift (fun _ => q_iconst (n := -1) (zd (i := .iconst (-1)) (n := 1) (by decide +kernel)) rfl) <|
  (fun lv hl => q_iret (zd (i := .ireturn) (n := 1) (by decide +kernel)) rfl rfl (Nat.le_refl _) (Nat.le_refl _) hQ)
theorem w_X9_seat_0 {Q : qQ} {I : qMI} {L : qML} {R : qMR} {a1 : Int32} {a2 : Int32} {P : Int32 → qMI → qML → Prop} (hc : wkI l G d n_X9_isSeat [.ref 292, .int a1] I L R P) (kk : ∀ y I' L', P y I' L' → wkB l G (d + 1) n_X9_seat Q 5 [.ref 292, .int a1, .int a2, wkU, wkU] [.int y] I' L' R) : wkB l G (d + 1) n_X9_seat Q 0 [.ref 292, .int a1, .int a2, wkU, wkU] [] I L R :=
  bb_aload_n (n := 0) (i := 0) (zd (i := .aload_n 0) (n := 1) (by decide +kernel)) rfl rfl <|
  bb_iload_n (n := 1) (i := 1) (zd (i := .iload_n 1) (n := 1) (by decide +kernel)) rfl rfl <|
  bb_callVI (idx := 378) (k := 292) (ci := 9) (N := n_X9_isSeat) (As := [.int a1]) (st := []) (zd (i := .invokevirtual 378) (n := 3) (by decide +kernel)) to_X9_isSeat g1487 g1489 g75 (Nat.le_of_ble_eq_true rfl) (by decide +kernel) (by decide +kernel) (by decide +kernel) rfl rfl rfl hc kk
theorem w_X9_seat_5 {Q : qQ} {I : qMI} {L : qML} {R : qMR} {a1 : Int32} {a2 : Int32} {s0 : Int32} (kt : ¬ s0 = 0 → wkB l G (d + 1) n_X9_seat Q 10 [.ref 292, .int a1, .int a2, wkU, wkU] [] I L R) (kf : s0 = 0 → wkB l G (d + 1) n_X9_seat Q 8 [.ref 292, .int a1, .int a2, wkU, wkU] [] I L R) : wkB l G (d + 1) n_X9_seat Q 5 [.ref 292, .int a1, .int a2, wkU, wkU] [.int s0] I L R :=
  (fun lv hl => q_if_ne (off := 5) (tgt := 10) (zd (i := .ifCond .ne (5)) (n := 3) (by decide +kernel)) (by decide) (fun h => (kt h) lv hl) (fun h => (kf h) lv hl))
theorem w_X9_seat_8 {Q : qQ} {I : qMI} {L : qML} {R : qMR} {a1 : Int32} {a2 : Int32} (hQ : Q (some (.int (-1))) 336 I L R) : wkB l G (d + 1) n_X9_seat Q 8 [.ref 292, .int a1, .int a2, wkU, wkU] [] I L R :=
  bb_lift (fun _ => q_iconst (n := -1) (zd (i := .iconst (-1)) (n := 1) (by decide +kernel)) rfl) <|
  (fun lv hl => q_iret (zd (i := .ireturn) (n := 1) (by decide +kernel)) rfl rfl (Nat.le_refl _) (Nat.le_refl _) hQ)
theorem w_X9_seat_10 {Q : qQ} {I : qMI} {L : qML} {R : qMR} {a1 : Int32} {a2 : Int32} {P : qMI → qML → Prop} (hc : wkV l G d n_X9_copies [.ref 292] I L R P) (kk : ∀ I' L', P I' L' → wkB l G (d + 1) n_X9_seat Q 14 [.ref 292, .int a1, .int a2, wkU, wkU] [] I' L' R) : wkB l G (d + 1) n_X9_seat Q 10 [.ref 292, .int a1, .int a2, wkU, wkU] [] I L R :=
  bb_aload_n (n := 0) (i := 0) (zd (i := .aload_n 0) (n := 1) (by decide +kernel)) rfl rfl <|
  bb_callVV (idx := 375) (k := 292) (ci := 9) (N := n_X9_copies) (As := []) (st := []) (zd (i := .invokevirtual 375) (n := 3) (by decide +kernel)) to_X9_copies g1445 g1447 g67 (Nat.le_of_ble_eq_true rfl) (by decide +kernel) (by decide +kernel) (by decide +kernel) rfl rfl rfl hc kk
theorem w_X9_seat_14 {Q : qQ} {I : qMI} {L : qML} {R : qMR} {a1 : Int32} {a2 : Int32} (k : qSwt (fun tg => wkB l G (d + 1) n_X9_seat Q tg [.ref 292, .int a1, .int a2, wkU, wkU] [] I L R) a2 0 [56, 63, 73, 79, 131, 137, 147] 157) : wkB l G (d + 1) n_X9_seat Q 14 [.ref 292, .int a1, .int a2, wkU, wkU] [] I L R :=
  bb_iload_n (n := 2) (i := 2) (zd (i := .iload_n 2) (n := 1) (by decide +kernel)) rfl rfl <|
  bb_table (v := 0) (df := 157) (len := 41) (dflt := 142) (lo := 0) (hi := 6) (offs := #[41, 48, 58, 64, 116, 122, 132]) (tgts := [56, 63, 73, 79, 131, 137, 147]) (zd (i := .tableswitch (142) (0) (6) #[41, 48, 58, 64, 116, 122, 132]) (n := 41) (by decide +kernel)) rfl rfl (by decide +kernel) (by decide +kernel) (by decide +kernel) k
theorem w_X9_seat_56 {Q : qQ} {I : qMI} {L : qML} {R : qMR} (hR : wkR R) {a1 : Int32} {a2 : Int32} (h1 : vp_in a1 97) (hQ : Q (some (.int (I 324 a1.toNatClampNeg))) 336 I L R) : wkB l G (d + 1) n_X9_seat Q 56 [.ref 292, .int a1, .int a2, wkU, wkU] [] I L R :=
  bb_aload_n (n := 0) (i := 0) (zd (i := .aload_n 0) (n := 1) (by decide +kernel)) rfl rfl <|
  bb_getr (k := 292) (ci := 9) (j := 49) (idx := 113) (a := 324) (zd (i := .getfield 113) (n := 3) (by decide +kernel)) (by decide +kernel) (by decide +kernel) (by decide +kernel) (by decide +kernel) rfl g1177 (hR 49 (by decide)) <|
  bb_iload_n (n := 1) (i := 1) (zd (i := .iload_n 1) (n := 1) (by decide +kernel)) rfl rfl <|
  bb_lift (fun _ => q_iald (k := 324) (zd (i := .iaload) (n := 1) (by decide +kernel)) (by decide +kernel) (by decide +kernel) h1) <|
  (fun lv hl => q_iret (zd (i := .ireturn) (n := 1) (by decide +kernel)) rfl rfl (Nat.le_refl _) (Nat.le_refl _) hQ)
theorem w_X9_seat_63 {Q : qQ} {I : qMI} {L : qML} {R : qMR} (hR : wkR R) {a1 : Int32} {a2 : Int32} (h1 : vp_in (6 + a1) 97) (hQ : Q (some (.int (I 324 (6 + a1).toNatClampNeg))) 336 I L R) : wkB l G (d + 1) n_X9_seat Q 63 [.ref 292, .int a1, .int a2, wkU, wkU] [] I L R :=
  bb_aload_n (n := 0) (i := 0) (zd (i := .aload_n 0) (n := 1) (by decide +kernel)) rfl rfl <|
  bb_getr (k := 292) (ci := 9) (j := 49) (idx := 113) (a := 324) (zd (i := .getfield 113) (n := 3) (by decide +kernel)) (by decide +kernel) (by decide +kernel) (by decide +kernel) (by decide +kernel) rfl g1177 (hR 49 (by decide)) <|
  bb_lift (fun _ => q_bipush (n := 6) (zd (i := .bipush (6)) (n := 2) (by decide +kernel)) rfl) <|
  bb_iload_n (n := 1) (i := 1) (zd (i := .iload_n 1) (n := 1) (by decide +kernel)) rfl rfl <|
  bb_lift (fun _ => q_iadd (zd (i := .iadd) (n := 1) (by decide +kernel))) <|
  bb_lift (fun _ => q_iald (k := 324) (zd (i := .iaload) (n := 1) (by decide +kernel)) (by decide +kernel) (by decide +kernel) h1) <|
  (fun lv hl => q_iret (zd (i := .ireturn) (n := 1) (by decide +kernel)) rfl rfl (Nat.le_refl _) (Nat.le_refl _) hQ)
theorem w_X9_seat_73 {Q : qQ} {I : qMI} {L : qML} {R : qMR} {a1 : Int32} {a2 : Int32} {P : Int32 → qMI → qML → Prop} (hc : wkI l G d n_X9_seesBits [.ref 292, .int a1] I L R P) (kk : ∀ y I' L', P y I' L' → wkB l G (d + 1) n_X9_seat Q 78 [.ref 292, .int a1, .int a2, wkU, wkU] [.int y] I' L' R) : wkB l G (d + 1) n_X9_seat Q 73 [.ref 292, .int a1, .int a2, wkU, wkU] [] I L R :=
  bb_aload_n (n := 0) (i := 0) (zd (i := .aload_n 0) (n := 1) (by decide +kernel)) rfl rfl <|
  bb_iload_n (n := 1) (i := 1) (zd (i := .iload_n 1) (n := 1) (by decide +kernel)) rfl rfl <|
  bb_callVI (idx := 381) (k := 292) (ci := 9) (N := n_X9_seesBits) (As := [.int a1]) (st := []) (zd (i := .invokevirtual 381) (n := 3) (by decide +kernel)) to_X9_seesBits g1491 g1493 g76 (Nat.le_of_ble_eq_true rfl) (by decide +kernel) (by decide +kernel) (by decide +kernel) rfl rfl rfl hc kk
theorem w_X9_seat_78 {Q : qQ} {I : qMI} {L : qML} {R : qMR} {a1 : Int32} {a2 : Int32} {s0 : Int32} (hQ : Q (some (.int s0)) 336 I L R) : wkB l G (d + 1) n_X9_seat Q 78 [.ref 292, .int a1, .int a2, wkU, wkU] [.int s0] I L R :=
  (fun lv hl => q_iret (zd (i := .ireturn) (n := 1) (by decide +kernel)) rfl rfl (Nat.le_refl _) (Nat.le_refl _) hQ)
theorem w_X9_seat_79 {Q : qQ} {I : qMI} {L : qML} {R : qMR} {a1 : Int32} {a2 : Int32} (k : wkB l G (d + 1) n_X9_seat Q 84 [.ref 292, .int a1, .int a2, .int 0, .int 0] [] I L R) : wkB l G (d + 1) n_X9_seat Q 79 [.ref 292, .int a1, .int a2, wkU, wkU] [] I L R :=
  bb_lift (fun _ => q_iconst (n := 0) (zd (i := .iconst (0)) (n := 1) (by decide +kernel)) rfl) <|
  bb_istore_n (n := 3) (i := 3) (zd (i := .istore_n 3) (n := 1) (by decide +kernel)) rfl (by decide +kernel) (wkNl_i rfl) <|
  bb_lift (fun _ => q_iconst (n := 0) (zd (i := .iconst (0)) (n := 1) (by decide +kernel)) rfl) <|
  bb_istore (i := 4) (zd (i := .istore 4) (n := 2) (by decide +kernel)) (by decide +kernel) (wkNl_i rfl) <|
  k
theorem w_X9_seat_84 {Q : qQ} {I : qMI} {L : qML} {R : qMR} (hR : wkR R) {a1 : Int32} {a2 : Int32} {a3 : Int32} {a4 : Int32} (h1 : vp_in (I 292 18) 2) (kt : (I 301 (I 292 18).toNatClampNeg) ≤ a4 → wkB l G (d + 1) n_X9_seat Q 129 [.ref 292, .int a1, .int a2, .int a3, .int a4] [] I L R) (kf : ¬ (I 301 (I 292 18).toNatClampNeg) ≤ a4 → wkB l G (d + 1) n_X9_seat Q 98 [.ref 292, .int a1, .int a2, .int a3, .int a4] [] I L R) : wkB l G (d + 1) n_X9_seat Q 84 [.ref 292, .int a1, .int a2, .int a3, .int a4] [] I L R :=
  bb_iload (i := 4) (zd (i := .iload 4) (n := 2) (by decide +kernel)) rfl <|
  bb_aload_n (n := 0) (i := 0) (zd (i := .aload_n 0) (n := 1) (by decide +kernel)) rfl rfl <|
  bb_getr (k := 292) (ci := 9) (j := 22) (idx := 43) (a := 301) (zd (i := .getfield 43) (n := 3) (by decide +kernel)) (by decide +kernel) (by decide +kernel) (by decide +kernel) (by decide +kernel) rfl g1150 (hR 22 (by decide)) <|
  bb_aload_n (n := 0) (i := 0) (zd (i := .aload_n 0) (n := 1) (by decide +kernel)) rfl rfl <|
  bb_geti (k := 292) (ci := 9) (j := 18) (idx := 230) (zd (i := .getfield 230) (n := 3) (by decide +kernel)) (by decide +kernel) (by decide +kernel) (by decide +kernel) (by decide +kernel) rfl g1146 <|
  bb_lift (fun _ => q_iald (k := 301) (zd (i := .iaload) (n := 1) (by decide +kernel)) (by decide +kernel) (by decide +kernel) h1) <|
  (fun lv hl => q_icmp_ge (off := 34) (tgt := 129) (zd (i := .if_icmp .ge (34)) (n := 3) (by decide +kernel)) (by decide) (fun h => (kt h) lv hl) (fun h => (kf h) lv hl))
theorem w_X9_seat_98 {Q : qQ} {I : qMI} {L : qML} {R : qMR} (hR : wkR R) {a1 : Int32} {a2 : Int32} {a3 : Int32} {a4 : Int32} (h1 : vp_in ((24 + (6 * a1)) + a4) 97) (kt : (I 324 ((24 + (6 * a1)) + a4).toNatClampNeg) ≤ 0 → wkB l G (d + 1) n_X9_seat Q 123 [.ref 292, .int a1, .int a2, .int a3, .int a4] [] I L R) (kf : ¬ (I 324 ((24 + (6 * a1)) + a4).toNatClampNeg) ≤ 0 → wkB l G (d + 1) n_X9_seat Q 116 [.ref 292, .int a1, .int a2, .int a3, .int a4] [] I L R) : wkB l G (d + 1) n_X9_seat Q 98 [.ref 292, .int a1, .int a2, .int a3, .int a4] [] I L R :=
  bb_aload_n (n := 0) (i := 0) (zd (i := .aload_n 0) (n := 1) (by decide +kernel)) rfl rfl <|
  bb_getr (k := 292) (ci := 9) (j := 49) (idx := 113) (a := 324) (zd (i := .getfield 113) (n := 3) (by decide +kernel)) (by decide +kernel) (by decide +kernel) (by decide +kernel) (by decide +kernel) rfl g1177 (hR 49 (by decide)) <|
  bb_lift (fun _ => q_bipush (n := 24) (zd (i := .bipush (24)) (n := 2) (by decide +kernel)) rfl) <|
  bb_lift (fun _ => q_bipush (n := 6) (zd (i := .bipush (6)) (n := 2) (by decide +kernel)) rfl) <|
  bb_iload_n (n := 1) (i := 1) (zd (i := .iload_n 1) (n := 1) (by decide +kernel)) rfl rfl <|
  bb_lift (fun _ => q_imul (zd (i := .imul) (n := 1) (by decide +kernel))) <|
  bb_lift (fun _ => q_iadd (zd (i := .iadd) (n := 1) (by decide +kernel))) <|
  bb_iload (i := 4) (zd (i := .iload 4) (n := 2) (by decide +kernel)) rfl <|
  bb_lift (fun _ => q_iadd (zd (i := .iadd) (n := 1) (by decide +kernel))) <|
  bb_lift (fun _ => q_iald (k := 324) (zd (i := .iaload) (n := 1) (by decide +kernel)) (by decide +kernel) (by decide +kernel) h1) <|
  (fun lv hl => q_if_le (off := 10) (tgt := 123) (zd (i := .ifCond .le (10)) (n := 3) (by decide +kernel)) (by decide) (fun h => (kt h) lv hl) (fun h => (kf h) lv hl))
theorem w_X9_seat_116 {Q : qQ} {I : qMI} {L : qML} {R : qMR} {a1 : Int32} {a2 : Int32} {a3 : Int32} {a4 : Int32} (k : wkB l G (d + 1) n_X9_seat Q 123 [.ref 292, .int a1, .int a2, .int (a3 ||| (1 <<< (a4 &&& 31))), .int a4] [] I L R) : wkB l G (d + 1) n_X9_seat Q 116 [.ref 292, .int a1, .int a2, .int a3, .int a4] [] I L R :=
  bb_iload_n (n := 3) (i := 3) (zd (i := .iload_n 3) (n := 1) (by decide +kernel)) rfl rfl <|
  bb_lift (fun _ => q_iconst (n := 1) (zd (i := .iconst (1)) (n := 1) (by decide +kernel)) rfl) <|
  bb_iload (i := 4) (zd (i := .iload 4) (n := 2) (by decide +kernel)) rfl <|
  bb_lift (fun _ => q_ishl (zd (i := .ishl) (n := 1) (by decide +kernel))) <|
  bb_lift (fun _ => q_ior (zd (i := .ior) (n := 1) (by decide +kernel))) <|
  bb_istore_n (n := 3) (i := 3) (zd (i := .istore_n 3) (n := 1) (by decide +kernel)) rfl (by decide +kernel) (wkNl_i rfl) <|
  k
theorem w_X9_seat_123 {Q : qQ} {I : qMI} {L : qML} {R : qMR} {a1 : Int32} {a2 : Int32} {a3 : Int32} {a4 : Int32} (k : wkB l G (d + 1) n_X9_seat Q 84 [.ref 292, .int a1, .int a2, .int a3, .int (a4 + 1)] [] I L R) : wkB l G (d + 1) n_X9_seat Q 123 [.ref 292, .int a1, .int a2, .int a3, .int a4] [] I L R :=
  bb_iinc (i := 4) (n := 1) (zd (i := .iinc 4 (1)) (n := 3) (by decide +kernel)) rfl rfl (by decide +kernel) (wkNl_i rfl) <|
  bb_lift (fun _ => q_goto (off := -42) (tgt := 84) (zd (i := .goto (-42)) (n := 3) (by decide +kernel)) (by decide)) k
theorem w_X9_seat_129 {Q : qQ} {I : qMI} {L : qML} {R : qMR} {a1 : Int32} {a2 : Int32} {a3 : Int32} {a4 : Int32} (hQ : Q (some (.int a3)) 336 I L R) : wkB l G (d + 1) n_X9_seat Q 129 [.ref 292, .int a1, .int a2, .int a3, .int a4] [] I L R :=
  bb_iload_n (n := 3) (i := 3) (zd (i := .iload_n 3) (n := 1) (by decide +kernel)) rfl rfl <|
  (fun lv hl => q_iret (zd (i := .ireturn) (n := 1) (by decide +kernel)) rfl rfl (Nat.le_refl _) (Nat.le_refl _) hQ)
theorem w_X9_seat_131 {Q : qQ} {I : qMI} {L : qML} {R : qMR} {a1 : Int32} {a2 : Int32} {P : Int32 → qMI → qML → Prop} (hc : wkI l G d n_X9_lentBy [.ref 292, .int a1] I L R P) (kk : ∀ y I' L', P y I' L' → wkB l G (d + 1) n_X9_seat Q 136 [.ref 292, .int a1, .int a2, wkU, wkU] [.int y] I' L' R) : wkB l G (d + 1) n_X9_seat Q 131 [.ref 292, .int a1, .int a2, wkU, wkU] [] I L R :=
  bb_aload_n (n := 0) (i := 0) (zd (i := .aload_n 0) (n := 1) (by decide +kernel)) rfl rfl <|
  bb_iload_n (n := 1) (i := 1) (zd (i := .iload_n 1) (n := 1) (by decide +kernel)) rfl rfl <|
  bb_callVI (idx := 384) (k := 292) (ci := 9) (N := n_X9_lentBy) (As := [.int a1]) (st := []) (zd (i := .invokevirtual 384) (n := 3) (by decide +kernel)) to_X9_lentBy g1495 g1497 g77 (Nat.le_of_ble_eq_true rfl) (by decide +kernel) (by decide +kernel) (by decide +kernel) rfl rfl rfl hc kk
theorem w_X9_seat_136 {Q : qQ} {I : qMI} {L : qML} {R : qMR} {a1 : Int32} {a2 : Int32} {s0 : Int32} (hQ : Q (some (.int s0)) 336 I L R) : wkB l G (d + 1) n_X9_seat Q 136 [.ref 292, .int a1, .int a2, wkU, wkU] [.int s0] I L R :=
  (fun lv hl => q_iret (zd (i := .ireturn) (n := 1) (by decide +kernel)) rfl rfl (Nat.le_refl _) (Nat.le_refl _) hQ)
theorem w_X9_seat_137 {Q : qQ} {I : qMI} {L : qML} {R : qMR} (hR : wkR R) {a1 : Int32} {a2 : Int32} (h1 : vp_in (12 + a1) 97) (hQ : Q (some (.int (I 324 (12 + a1).toNatClampNeg))) 336 I L R) : wkB l G (d + 1) n_X9_seat Q 137 [.ref 292, .int a1, .int a2, wkU, wkU] [] I L R :=
  bb_aload_n (n := 0) (i := 0) (zd (i := .aload_n 0) (n := 1) (by decide +kernel)) rfl rfl <|
  bb_getr (k := 292) (ci := 9) (j := 49) (idx := 113) (a := 324) (zd (i := .getfield 113) (n := 3) (by decide +kernel)) (by decide +kernel) (by decide +kernel) (by decide +kernel) (by decide +kernel) rfl g1177 (hR 49 (by decide)) <|
  bb_lift (fun _ => q_bipush (n := 12) (zd (i := .bipush (12)) (n := 2) (by decide +kernel)) rfl) <|
  bb_iload_n (n := 1) (i := 1) (zd (i := .iload_n 1) (n := 1) (by decide +kernel)) rfl rfl <|
  bb_lift (fun _ => q_iadd (zd (i := .iadd) (n := 1) (by decide +kernel))) <|
  bb_lift (fun _ => q_iald (k := 324) (zd (i := .iaload) (n := 1) (by decide +kernel)) (by decide +kernel) (by decide +kernel) h1) <|
  (fun lv hl => q_iret (zd (i := .ireturn) (n := 1) (by decide +kernel)) rfl rfl (Nat.le_refl _) (Nat.le_refl _) hQ)
theorem w_X9_seat_147 {Q : qQ} {I : qMI} {L : qML} {R : qMR} (hR : wkR R) {a1 : Int32} {a2 : Int32} (h1 : vp_in (18 + a1) 97) (hQ : Q (some (.int (I 324 (18 + a1).toNatClampNeg))) 336 I L R) : wkB l G (d + 1) n_X9_seat Q 147 [.ref 292, .int a1, .int a2, wkU, wkU] [] I L R :=
  bb_aload_n (n := 0) (i := 0) (zd (i := .aload_n 0) (n := 1) (by decide +kernel)) rfl rfl <|
  bb_getr (k := 292) (ci := 9) (j := 49) (idx := 113) (a := 324) (zd (i := .getfield 113) (n := 3) (by decide +kernel)) (by decide +kernel) (by decide +kernel) (by decide +kernel) (by decide +kernel) rfl g1177 (hR 49 (by decide)) <|
  bb_lift (fun _ => q_bipush (n := 18) (zd (i := .bipush (18)) (n := 2) (by decide +kernel)) rfl) <|
  bb_iload_n (n := 1) (i := 1) (zd (i := .iload_n 1) (n := 1) (by decide +kernel)) rfl rfl <|
  bb_lift (fun _ => q_iadd (zd (i := .iadd) (n := 1) (by decide +kernel))) <|
  bb_lift (fun _ => q_iald (k := 324) (zd (i := .iaload) (n := 1) (by decide +kernel)) (by decide +kernel) (by decide +kernel) h1) <|
  (fun lv hl => q_iret (zd (i := .ireturn) (n := 1) (by decide +kernel)) rfl rfl (Nat.le_refl _) (Nat.le_refl _) hQ)
theorem w_X9_seat_157 {Q : qQ} {I : qMI} {L : qML} {R : qMR} {a1 : Int32} {a2 : Int32} (hQ : Q (some (.int (-1))) 336 I L R) : wkB l G (d + 1) n_X9_seat Q 157 [.ref 292, .int a1, .int a2, wkU, wkU] [] I L R :=
  bb_lift (fun _ => q_iconst (n := -1) (zd (i := .iconst (-1)) (n := 1) (by decide +kernel)) rfl) <|
  (fun lv hl => q_iret (zd (i := .ireturn) (n := 1) (by decide +kernel)) rfl rfl (Nat.le_refl _) (Nat.le_refl _) hQ)
theorem w_X9_loan_0 {Q : qQ} {I : qMI} {L : qML} {R : qMR} {a1 : Int32} {a2 : Int32} {a3 : Int32} {P : Int32 → qMI → qML → Prop} (hc : wkI l G d n_X9_isSeat [.ref 292, .int a1] I L R P) (kk : ∀ y I' L', P y I' L' → wkB l G (d + 1) n_X9_loan Q 5 [.ref 292, .int a1, .int a2, .int a3] [.int y] I' L' R) : wkB l G (d + 1) n_X9_loan Q 0 [.ref 292, .int a1, .int a2, .int a3] [] I L R :=
  bb_aload_n (n := 0) (i := 0) (zd (i := .aload_n 0) (n := 1) (by decide +kernel)) rfl rfl <|
  bb_iload_n (n := 1) (i := 1) (zd (i := .iload_n 1) (n := 1) (by decide +kernel)) rfl rfl <|
  bb_callVI (idx := 378) (k := 292) (ci := 9) (N := n_X9_isSeat) (As := [.int a1]) (st := []) (zd (i := .invokevirtual 378) (n := 3) (by decide +kernel)) to_X9_isSeat g1487 g1489 g75 (Nat.le_of_ble_eq_true rfl) (by decide +kernel) (by decide +kernel) (by decide +kernel) rfl rfl rfl hc kk
theorem w_X9_loan_5 {Q : qQ} {I : qMI} {L : qML} {R : qMR} {a1 : Int32} {a2 : Int32} {a3 : Int32} {s0 : Int32} (kt : s0 = 0 → wkB l G (d + 1) n_X9_loan Q 25 [.ref 292, .int a1, .int a2, .int a3] [] I L R) (kf : ¬ s0 = 0 → wkB l G (d + 1) n_X9_loan Q 8 [.ref 292, .int a1, .int a2, .int a3] [] I L R) : wkB l G (d + 1) n_X9_loan Q 5 [.ref 292, .int a1, .int a2, .int a3] [.int s0] I L R :=
  (fun lv hl => q_if_eq (off := 20) (tgt := 25) (zd (i := .ifCond .eq (20)) (n := 3) (by decide +kernel)) (by decide) (fun h => (kt h) lv hl) (fun h => (kf h) lv hl))
theorem w_X9_loan_8 {Q : qQ} {I : qMI} {L : qML} {R : qMR} {a1 : Int32} {a2 : Int32} {a3 : Int32} {P : Int32 → qMI → qML → Prop} (hc : wkI l G d n_X9_isThing [.ref 292, .int a2] I L R P) (kk : ∀ y I' L', P y I' L' → wkB l G (d + 1) n_X9_loan Q 13 [.ref 292, .int a1, .int a2, .int a3] [.int y] I' L' R) : wkB l G (d + 1) n_X9_loan Q 8 [.ref 292, .int a1, .int a2, .int a3] [] I L R :=
  bb_aload_n (n := 0) (i := 0) (zd (i := .aload_n 0) (n := 1) (by decide +kernel)) rfl rfl <|
  bb_iload_n (n := 2) (i := 2) (zd (i := .iload_n 2) (n := 1) (by decide +kernel)) rfl rfl <|
  bb_callVI (idx := 372) (k := 292) (ci := 9) (N := n_X9_isThing) (As := [.int a2]) (st := []) (zd (i := .invokevirtual 372) (n := 3) (by decide +kernel)) to_X9_isThing g1438 g1440 g66 (Nat.le_of_ble_eq_true rfl) (by decide +kernel) (by decide +kernel) (by decide +kernel) rfl rfl rfl hc kk
theorem w_X9_loan_13 {Q : qQ} {I : qMI} {L : qML} {R : qMR} {a1 : Int32} {a2 : Int32} {a3 : Int32} {s0 : Int32} (kt : s0 = 0 → wkB l G (d + 1) n_X9_loan Q 25 [.ref 292, .int a1, .int a2, .int a3] [] I L R) (kf : ¬ s0 = 0 → wkB l G (d + 1) n_X9_loan Q 16 [.ref 292, .int a1, .int a2, .int a3] [] I L R) : wkB l G (d + 1) n_X9_loan Q 13 [.ref 292, .int a1, .int a2, .int a3] [.int s0] I L R :=
  (fun lv hl => q_if_eq (off := 12) (tgt := 25) (zd (i := .ifCond .eq (12)) (n := 3) (by decide +kernel)) (by decide) (fun h => (kt h) lv hl) (fun h => (kf h) lv hl))
theorem w_X9_loan_16 {Q : qQ} {I : qMI} {L : qML} {R : qMR} {a1 : Int32} {a2 : Int32} {a3 : Int32} {P : Int32 → qMI → qML → Prop} (hc : wkI l G d n_X9_in [.int a3, .int 0, .int 1] I L R P) (kk : ∀ y I' L', P y I' L' → wkB l G (d + 1) n_X9_loan Q 22 [.ref 292, .int a1, .int a2, .int a3] [.int y] I' L' R) : wkB l G (d + 1) n_X9_loan Q 16 [.ref 292, .int a1, .int a2, .int a3] [] I L R :=
  bb_iload_n (n := 3) (i := 3) (zd (i := .iload_n 3) (n := 1) (by decide +kernel)) rfl rfl <|
  bb_lift (fun _ => q_iconst (n := 0) (zd (i := .iconst (0)) (n := 1) (by decide +kernel)) rfl) <|
  bb_lift (fun _ => q_iconst (n := 1) (zd (i := .iconst (1)) (n := 1) (by decide +kernel)) rfl) <|
  bb_callSI (idx := 304) (N := n_X9_in) (As := [.int a3, .int 0, .int 1]) (st := []) (zd (i := .invokestatic 304) (n := 3) (by decide +kernel)) to_X9_in g1442 g1443 (Nat.le_of_ble_eq_true rfl) rfl rfl hc kk
theorem w_X9_loan_22 {Q : qQ} {I : qMI} {L : qML} {R : qMR} {a1 : Int32} {a2 : Int32} {a3 : Int32} {s0 : Int32} (kt : ¬ s0 = 0 → wkB l G (d + 1) n_X9_loan Q 27 [.ref 292, .int a1, .int a2, .int a3] [] I L R) (kf : s0 = 0 → wkB l G (d + 1) n_X9_loan Q 25 [.ref 292, .int a1, .int a2, .int a3] [] I L R) : wkB l G (d + 1) n_X9_loan Q 22 [.ref 292, .int a1, .int a2, .int a3] [.int s0] I L R :=
  (fun lv hl => q_if_ne (off := 5) (tgt := 27) (zd (i := .ifCond .ne (5)) (n := 3) (by decide +kernel)) (by decide) (fun h => (kt h) lv hl) (fun h => (kf h) lv hl))
theorem w_X9_loan_25 {Q : qQ} {I : qMI} {L : qML} {R : qMR} {a1 : Int32} {a2 : Int32} {a3 : Int32} (hQ : Q (some (.int (-1))) 336 I L R) : wkB l G (d + 1) n_X9_loan Q 25 [.ref 292, .int a1, .int a2, .int a3] [] I L R :=
  bb_lift (fun _ => q_iconst (n := -1) (zd (i := .iconst (-1)) (n := 1) (by decide +kernel)) rfl) <|
  (fun lv hl => q_iret (zd (i := .ireturn) (n := 1) (by decide +kernel)) rfl rfl (Nat.le_refl _) (Nat.le_refl _) hQ)
theorem w_X9_loan_27 {Q : qQ} {I : qMI} {L : qML} {R : qMR} (hR : wkR R) {a1 : Int32} {a2 : Int32} {a3 : Int32} (h1 : vp_in ((24 + (6 * a1)) + a2) 97) (kt : ¬ (I 323 ((24 + (6 * a1)) + a2).toNatClampNeg) = 0 → wkB l G (d + 1) n_X9_loan Q 47 [.ref 292, .int a1, .int a2, .int a3] [] I L R) (kf : (I 323 ((24 + (6 * a1)) + a2).toNatClampNeg) = 0 → wkB l G (d + 1) n_X9_loan Q 44 [.ref 292, .int a1, .int a2, .int a3] [] I L R) : wkB l G (d + 1) n_X9_loan Q 27 [.ref 292, .int a1, .int a2, .int a3] [] I L R :=
  bb_aload_n (n := 0) (i := 0) (zd (i := .aload_n 0) (n := 1) (by decide +kernel)) rfl rfl <|
  bb_getr (k := 292) (ci := 9) (j := 48) (idx := 110) (a := 323) (zd (i := .getfield 110) (n := 3) (by decide +kernel)) (by decide +kernel) (by decide +kernel) (by decide +kernel) (by decide +kernel) rfl g1176 (hR 48 (by decide)) <|
  bb_lift (fun _ => q_bipush (n := 24) (zd (i := .bipush (24)) (n := 2) (by decide +kernel)) rfl) <|
  bb_lift (fun _ => q_bipush (n := 6) (zd (i := .bipush (6)) (n := 2) (by decide +kernel)) rfl) <|
  bb_iload_n (n := 1) (i := 1) (zd (i := .iload_n 1) (n := 1) (by decide +kernel)) rfl rfl <|
  bb_lift (fun _ => q_imul (zd (i := .imul) (n := 1) (by decide +kernel))) <|
  bb_lift (fun _ => q_iadd (zd (i := .iadd) (n := 1) (by decide +kernel))) <|
  bb_iload_n (n := 2) (i := 2) (zd (i := .iload_n 2) (n := 1) (by decide +kernel)) rfl rfl <|
  bb_lift (fun _ => q_iadd (zd (i := .iadd) (n := 1) (by decide +kernel))) <|
  bb_lift (fun _ => q_iald (k := 323) (zd (i := .iaload) (n := 1) (by decide +kernel)) (by decide +kernel) (by decide +kernel) h1) <|
  (fun lv hl => q_if_ne (off := 6) (tgt := 47) (zd (i := .ifCond .ne (6)) (n := 3) (by decide +kernel)) (by decide) (fun h => (kt h) lv hl) (fun h => (kf h) lv hl))
theorem w_X9_loan_44 {Q : qQ} {I : qMI} {L : qML} {R : qMR} {a1 : Int32} {a2 : Int32} {a3 : Int32} (hQ : Q (some (.int (-2))) 336 I L R) : wkB l G (d + 1) n_X9_loan Q 44 [.ref 292, .int a1, .int a2, .int a3] [] I L R :=
  bb_lift (fun _ => q_bipush (n := -2) (zd (i := .bipush (-2)) (n := 2) (by decide +kernel)) rfl) <|
  (fun lv hl => q_iret (zd (i := .ireturn) (n := 1) (by decide +kernel)) rfl rfl (Nat.le_refl _) (Nat.le_refl _) hQ)
theorem w_X9_loan_47 {Q : qQ} {I : qMI} {L : qML} {R : qMR} (hR : wkR R) {a1 : Int32} {a2 : Int32} {a3 : Int32} (h1 : vp_in (((24 + (36 * a3)) + (6 * a1)) + a2) 97) (hQ : Q (some (.int (I 323 (((24 + (36 * a3)) + (6 * a1)) + a2).toNatClampNeg))) 336 I L R) : wkB l G (d + 1) n_X9_loan Q 47 [.ref 292, .int a1, .int a2, .int a3] [] I L R :=
  bb_aload_n (n := 0) (i := 0) (zd (i := .aload_n 0) (n := 1) (by decide +kernel)) rfl rfl <|
  bb_getr (k := 292) (ci := 9) (j := 48) (idx := 110) (a := 323) (zd (i := .getfield 110) (n := 3) (by decide +kernel)) (by decide +kernel) (by decide +kernel) (by decide +kernel) (by decide +kernel) rfl g1176 (hR 48 (by decide)) <|
  bb_lift (fun _ => q_bipush (n := 24) (zd (i := .bipush (24)) (n := 2) (by decide +kernel)) rfl) <|
  bb_lift (fun _ => q_bipush (n := 36) (zd (i := .bipush (36)) (n := 2) (by decide +kernel)) rfl) <|
  bb_iload_n (n := 3) (i := 3) (zd (i := .iload_n 3) (n := 1) (by decide +kernel)) rfl rfl <|
  bb_lift (fun _ => q_imul (zd (i := .imul) (n := 1) (by decide +kernel))) <|
  bb_lift (fun _ => q_iadd (zd (i := .iadd) (n := 1) (by decide +kernel))) <|
  bb_lift (fun _ => q_bipush (n := 6) (zd (i := .bipush (6)) (n := 2) (by decide +kernel)) rfl) <|
  bb_iload_n (n := 1) (i := 1) (zd (i := .iload_n 1) (n := 1) (by decide +kernel)) rfl rfl <|
  bb_lift (fun _ => q_imul (zd (i := .imul) (n := 1) (by decide +kernel))) <|
  bb_lift (fun _ => q_iadd (zd (i := .iadd) (n := 1) (by decide +kernel))) <|
  bb_iload_n (n := 2) (i := 2) (zd (i := .iload_n 2) (n := 1) (by decide +kernel)) rfl rfl <|
  bb_lift (fun _ => q_iadd (zd (i := .iadd) (n := 1) (by decide +kernel))) <|
  bb_lift (fun _ => q_iald (k := 323) (zd (i := .iaload) (n := 1) (by decide +kernel)) (by decide +kernel) (by decide +kernel) h1) <|
  (fun lv hl => q_iret (zd (i := .ireturn) (n := 1) (by decide +kernel)) rfl rfl (Nat.le_refl _) (Nat.le_refl _) hQ)
theorem w_X9_tells_0 {Q : qQ} {I : qMI} {L : qML} {R : qMR} {a1 : Int32} {a2 : Int32} {a3 : Int32} {a4 : Int32} {P : qMI → qML → Prop} (hc : wkV l G d n_X9_copies [.ref 292] I L R P) (kk : ∀ I' L', P I' L' → wkB l G (d + 1) n_X9_tells Q 4 [.ref 292, .int a1, .int a2, .int a3, .int a4, wkU, wkU] [] I' L' R) : wkB l G (d + 1) n_X9_tells Q 0 [.ref 292, .int a1, .int a2, .int a3, .int a4, wkU, wkU] [] I L R :=
  bb_aload_n (n := 0) (i := 0) (zd (i := .aload_n 0) (n := 1) (by decide +kernel)) rfl rfl <|
  bb_callVV (idx := 375) (k := 292) (ci := 9) (N := n_X9_copies) (As := []) (st := []) (zd (i := .invokevirtual 375) (n := 3) (by decide +kernel)) to_X9_copies g1445 g1447 g67 (Nat.le_of_ble_eq_true rfl) (by decide +kernel) (by decide +kernel) (by decide +kernel) rfl rfl rfl hc kk
theorem w_X9_tells_4 {Q : qQ} {I : qMI} {L : qML} {R : qMR} {a1 : Int32} {a2 : Int32} {a3 : Int32} {a4 : Int32} {P : Int32 → qMI → qML → Prop} (hc : wkI l G d n_X9_isX [.int a2] I L R P) (kk : ∀ y I' L', P y I' L' → wkB l G (d + 1) n_X9_tells Q 8 [.ref 292, .int a1, .int a2, .int a3, .int a4, wkU, wkU] [.int y] I' L' R) : wkB l G (d + 1) n_X9_tells Q 4 [.ref 292, .int a1, .int a2, .int a3, .int a4, wkU, wkU] [] I L R :=
  bb_iload_n (n := 2) (i := 2) (zd (i := .iload_n 2) (n := 1) (by decide +kernel)) rfl rfl <|
  bb_callSI (idx := 387) (N := n_X9_isX) (As := [.int a2]) (st := []) (zd (i := .invokestatic 387) (n := 3) (by decide +kernel)) to_X9_isX g1507 g1508 (Nat.le_of_ble_eq_true rfl) rfl rfl hc kk
theorem w_X9_tells_8 {Q : qQ} {I : qMI} {L : qML} {R : qMR} {a1 : Int32} {a2 : Int32} {a3 : Int32} {a4 : Int32} {s0 : Int32} (kt : s0 = 0 → wkB l G (d + 1) n_X9_tells Q 23 [.ref 292, .int a1, .int a2, .int a3, .int a4, wkU, wkU] [] I L R) (kf : ¬ s0 = 0 → wkB l G (d + 1) n_X9_tells Q 11 [.ref 292, .int a1, .int a2, .int a3, .int a4, wkU, wkU] [] I L R) : wkB l G (d + 1) n_X9_tells Q 8 [.ref 292, .int a1, .int a2, .int a3, .int a4, wkU, wkU] [.int s0] I L R :=
  (fun lv hl => q_if_eq (off := 15) (tgt := 23) (zd (i := .ifCond .eq (15)) (n := 3) (by decide +kernel)) (by decide) (fun h => (kt h) lv hl) (fun h => (kf h) lv hl))
theorem w_X9_tells_11 {Q : qQ} {I : qMI} {L : qML} {R : qMR} {a1 : Int32} {a2 : Int32} {a3 : Int32} {a4 : Int32} {P : Int32 → qMI → qML → Prop} (hc : wkI l G d n_X9_isThing [.ref 292, .int a3] I L R P) (kk : ∀ y I' L', P y I' L' → wkB l G (d + 1) n_X9_tells Q 16 [.ref 292, .int a1, .int a2, .int a3, .int a4, wkU, wkU] [.int y] I' L' R) : wkB l G (d + 1) n_X9_tells Q 11 [.ref 292, .int a1, .int a2, .int a3, .int a4, wkU, wkU] [] I L R :=
  bb_aload_n (n := 0) (i := 0) (zd (i := .aload_n 0) (n := 1) (by decide +kernel)) rfl rfl <|
  bb_iload_n (n := 3) (i := 3) (zd (i := .iload_n 3) (n := 1) (by decide +kernel)) rfl rfl <|
  bb_callVI (idx := 372) (k := 292) (ci := 9) (N := n_X9_isThing) (As := [.int a3]) (st := []) (zd (i := .invokevirtual 372) (n := 3) (by decide +kernel)) to_X9_isThing g1438 g1440 g66 (Nat.le_of_ble_eq_true rfl) (by decide +kernel) (by decide +kernel) (by decide +kernel) rfl rfl rfl hc kk
theorem w_X9_tells_16 {Q : qQ} {I : qMI} {L : qML} {R : qMR} {a1 : Int32} {a2 : Int32} {a3 : Int32} {a4 : Int32} {s0 : Int32} (kt : s0 = 0 → wkB l G (d + 1) n_X9_tells Q 23 [.ref 292, .int a1, .int a2, .int a3, .int a4, wkU, wkU] [] I L R) (kf : ¬ s0 = 0 → wkB l G (d + 1) n_X9_tells Q 19 [.ref 292, .int a1, .int a2, .int a3, .int a4, wkU, wkU] [] I L R) : wkB l G (d + 1) n_X9_tells Q 16 [.ref 292, .int a1, .int a2, .int a3, .int a4, wkU, wkU] [.int s0] I L R :=
  (fun lv hl => q_if_eq (off := 7) (tgt := 23) (zd (i := .ifCond .eq (7)) (n := 3) (by decide +kernel)) (by decide) (fun h => (kt h) lv hl) (fun h => (kf h) lv hl))
theorem w_X9_tells_19 {Q : qQ} {I : qMI} {L : qML} {R : qMR} {a1 : Int32} {a2 : Int32} {a3 : Int32} {a4 : Int32} (k : wkB l G (d + 1) n_X9_tells Q 24 [.ref 292, .int a1, .int a2, .int a3, .int a4, wkU, wkU] [.int 1] I L R) : wkB l G (d + 1) n_X9_tells Q 19 [.ref 292, .int a1, .int a2, .int a3, .int a4, wkU, wkU] [] I L R :=
  bb_lift (fun _ => q_iconst (n := 1) (zd (i := .iconst (1)) (n := 1) (by decide +kernel)) rfl) <|
  bb_lift (fun _ => q_goto (off := 4) (tgt := 24) (zd (i := .goto (4)) (n := 3) (by decide +kernel)) (by decide)) k
theorem w_X9_tells_23 {Q : qQ} {I : qMI} {L : qML} {R : qMR} {a1 : Int32} {a2 : Int32} {a3 : Int32} {a4 : Int32} (k : wkB l G (d + 1) n_X9_tells Q 24 [.ref 292, .int a1, .int a2, .int a3, .int a4, wkU, wkU] [.int 0] I L R) : wkB l G (d + 1) n_X9_tells Q 23 [.ref 292, .int a1, .int a2, .int a3, .int a4, wkU, wkU] [] I L R :=
  bb_lift (fun _ => q_iconst (n := 0) (zd (i := .iconst (0)) (n := 1) (by decide +kernel)) rfl) <|
  k
theorem w_X9_tells_24 {Q : qQ} {I : qMI} {L : qML} {R : qMR} (hR : wkR R) {a1 : Int32} {a2 : Int32} {a3 : Int32} {a4 : Int32} {s0 : Int32} (h1 : vp_in 96 97) (k : qSwt (fun tg => wkB l G (d + 1) n_X9_tells Q tg [.ref 292, .int a1, .int a2, .int a3, .int a4, .int s0, .int (I 324 (96 : Int32).toNatClampNeg)] [] I L R) a1 0 [68, 75, 121, 154] 180) : wkB l G (d + 1) n_X9_tells Q 24 [.ref 292, .int a1, .int a2, .int a3, .int a4, wkU, wkU] [.int s0] I L R :=
  bb_istore (i := 5) (zd (i := .istore 5) (n := 2) (by decide +kernel)) (by decide +kernel) (wkNl_i rfl) <|
  bb_aload_n (n := 0) (i := 0) (zd (i := .aload_n 0) (n := 1) (by decide +kernel)) rfl rfl <|
  bb_getr (k := 292) (ci := 9) (j := 49) (idx := 113) (a := 324) (zd (i := .getfield 113) (n := 3) (by decide +kernel)) (by decide +kernel) (by decide +kernel) (by decide +kernel) (by decide +kernel) rfl g1177 (hR 49 (by decide)) <|
  bb_lift (fun _ => q_bipush (n := 96) (zd (i := .bipush (96)) (n := 2) (by decide +kernel)) rfl) <|
  bb_lift (fun _ => q_iald (k := 324) (zd (i := .iaload) (n := 1) (by decide +kernel)) (by decide +kernel) (by decide +kernel) h1) <|
  bb_istore (i := 6) (zd (i := .istore 6) (n := 2) (by decide +kernel)) (by decide +kernel) (wkNl_i rfl) <|
  bb_iload_n (n := 1) (i := 1) (zd (i := .iload_n 1) (n := 1) (by decide +kernel)) rfl rfl <|
  bb_table (v := 0) (df := 180) (len := 32) (dflt := 144) (lo := 0) (hi := 3) (offs := #[32, 39, 85, 118]) (tgts := [68, 75, 121, 154]) (zd (i := .tableswitch (144) (0) (3) #[32, 39, 85, 118]) (n := 32) (by decide +kernel)) rfl rfl (by decide +kernel) (by decide +kernel) (by decide +kernel) k
theorem w_X9_tells_68 {Q : qQ} {I : qMI} {L : qML} {R : qMR} {a1 : Int32} {a2 : Int32} {a3 : Int32} {a4 : Int32} {a5 : Int32} {a6 : Int32} {P : Int32 → qMI → qML → Prop} (hc : wkI l G d n_X9_heatAt [.ref 292, .int a6] I L R P) (kk : ∀ y I' L', P y I' L' → wkB l G (d + 1) n_X9_tells Q 74 [.ref 292, .int a1, .int a2, .int a3, .int a4, .int a5, .int a6] [.int y] I' L' R) : wkB l G (d + 1) n_X9_tells Q 68 [.ref 292, .int a1, .int a2, .int a3, .int a4, .int a5, .int a6] [] I L R :=
  bb_aload_n (n := 0) (i := 0) (zd (i := .aload_n 0) (n := 1) (by decide +kernel)) rfl rfl <|
  bb_iload (i := 6) (zd (i := .iload 6) (n := 2) (by decide +kernel)) rfl <|
  bb_callVI (idx := 327) (k := 292) (ci := 9) (N := n_X9_heatAt) (As := [.int a6]) (st := []) (zd (i := .invokevirtual 327) (n := 3) (by decide +kernel)) to_X9_heatAt g1461 g1463 g71 (Nat.le_of_ble_eq_true rfl) (by decide +kernel) (by decide +kernel) (by decide +kernel) rfl rfl rfl hc kk
theorem w_X9_tells_74 {Q : qQ} {I : qMI} {L : qML} {R : qMR} {a1 : Int32} {a2 : Int32} {a3 : Int32} {a4 : Int32} {a5 : Int32} {a6 : Int32} {s0 : Int32} (hQ : Q (some (.int s0)) 336 I L R) : wkB l G (d + 1) n_X9_tells Q 74 [.ref 292, .int a1, .int a2, .int a3, .int a4, .int a5, .int a6] [.int s0] I L R :=
  (fun lv hl => q_iret (zd (i := .ireturn) (n := 1) (by decide +kernel)) rfl rfl (Nat.le_refl _) (Nat.le_refl _) hQ)
theorem w_X9_tells_75 {Q : qQ} {I : qMI} {L : qML} {R : qMR} {a1 : Int32} {a2 : Int32} {a3 : Int32} {a4 : Int32} {a5 : Int32} {a6 : Int32} (kt : a5 = 0 → wkB l G (d + 1) n_X9_tells Q 118 [.ref 292, .int a1, .int a2, .int a3, .int a4, .int a5, .int a6] [] I L R) (kf : ¬ a5 = 0 → wkB l G (d + 1) n_X9_tells Q 80 [.ref 292, .int a1, .int a2, .int a3, .int a4, .int a5, .int a6] [] I L R) : wkB l G (d + 1) n_X9_tells Q 75 [.ref 292, .int a1, .int a2, .int a3, .int a4, .int a5, .int a6] [] I L R :=
  bb_iload (i := 5) (zd (i := .iload 5) (n := 2) (by decide +kernel)) rfl <|
  (fun lv hl => q_if_eq (off := 41) (tgt := 118) (zd (i := .ifCond .eq (41)) (n := 3) (by decide +kernel)) (by decide) (fun h => (kt h) lv hl) (fun h => (kf h) lv hl))
theorem w_X9_tells_80 {Q : qQ} {I : qMI} {L : qML} {R : qMR} (hR : wkR R) {a1 : Int32} {a2 : Int32} {a3 : Int32} {a4 : Int32} {a5 : Int32} {a6 : Int32} (h1 : vp_in ((6 * (I 292 18)) + a3) 12) (h2 : vp_in ((6 * (I 292 18)) + a3) 12) {P : Int32 → qMI → qML → Prop} (hc : wkI l G d n_X9_movedBy [.ref 292, .int a2, .int (I 302 ((6 * (I 292 18)) + a3).toNatClampNeg), .int (I 303 ((6 * (I 292 18)) + a3).toNatClampNeg), .int a6] I L R P) (kk : ∀ y I' L', P y I' L' → wkB l G (d + 1) n_X9_tells Q 115 [.ref 292, .int a1, .int a2, .int a3, .int a4, .int a5, .int a6] [.int y] I' L' R) : wkB l G (d + 1) n_X9_tells Q 80 [.ref 292, .int a1, .int a2, .int a3, .int a4, .int a5, .int a6] [] I L R :=
  bb_aload_n (n := 0) (i := 0) (zd (i := .aload_n 0) (n := 1) (by decide +kernel)) rfl rfl <|
  bb_iload_n (n := 2) (i := 2) (zd (i := .iload_n 2) (n := 1) (by decide +kernel)) rfl rfl <|
  bb_aload_n (n := 0) (i := 0) (zd (i := .aload_n 0) (n := 1) (by decide +kernel)) rfl rfl <|
  bb_getr (k := 292) (ci := 9) (j := 23) (idx := 46) (a := 302) (zd (i := .getfield 46) (n := 3) (by decide +kernel)) (by decide +kernel) (by decide +kernel) (by decide +kernel) (by decide +kernel) rfl g1151 (hR 23 (by decide)) <|
  bb_lift (fun _ => q_bipush (n := 6) (zd (i := .bipush (6)) (n := 2) (by decide +kernel)) rfl) <|
  bb_aload_n (n := 0) (i := 0) (zd (i := .aload_n 0) (n := 1) (by decide +kernel)) rfl rfl <|
  bb_geti (k := 292) (ci := 9) (j := 18) (idx := 230) (zd (i := .getfield 230) (n := 3) (by decide +kernel)) (by decide +kernel) (by decide +kernel) (by decide +kernel) (by decide +kernel) rfl g1146 <|
  bb_lift (fun _ => q_imul (zd (i := .imul) (n := 1) (by decide +kernel))) <|
  bb_iload_n (n := 3) (i := 3) (zd (i := .iload_n 3) (n := 1) (by decide +kernel)) rfl rfl <|
  bb_lift (fun _ => q_iadd (zd (i := .iadd) (n := 1) (by decide +kernel))) <|
  bb_lift (fun _ => q_iald (k := 302) (zd (i := .iaload) (n := 1) (by decide +kernel)) (by decide +kernel) (by decide +kernel) h1) <|
  bb_aload_n (n := 0) (i := 0) (zd (i := .aload_n 0) (n := 1) (by decide +kernel)) rfl rfl <|
  bb_getr (k := 292) (ci := 9) (j := 24) (idx := 49) (a := 303) (zd (i := .getfield 49) (n := 3) (by decide +kernel)) (by decide +kernel) (by decide +kernel) (by decide +kernel) (by decide +kernel) rfl g1152 (hR 24 (by decide)) <|
  bb_lift (fun _ => q_bipush (n := 6) (zd (i := .bipush (6)) (n := 2) (by decide +kernel)) rfl) <|
  bb_aload_n (n := 0) (i := 0) (zd (i := .aload_n 0) (n := 1) (by decide +kernel)) rfl rfl <|
  bb_geti (k := 292) (ci := 9) (j := 18) (idx := 230) (zd (i := .getfield 230) (n := 3) (by decide +kernel)) (by decide +kernel) (by decide +kernel) (by decide +kernel) (by decide +kernel) rfl g1146 <|
  bb_lift (fun _ => q_imul (zd (i := .imul) (n := 1) (by decide +kernel))) <|
  bb_iload_n (n := 3) (i := 3) (zd (i := .iload_n 3) (n := 1) (by decide +kernel)) rfl rfl <|
  bb_lift (fun _ => q_iadd (zd (i := .iadd) (n := 1) (by decide +kernel))) <|
  bb_lift (fun _ => q_iald (k := 303) (zd (i := .iaload) (n := 1) (by decide +kernel)) (by decide +kernel) (by decide +kernel) h2) <|
  bb_iload (i := 6) (zd (i := .iload 6) (n := 2) (by decide +kernel)) rfl <|
  bb_callVI (idx := 341) (k := 292) (ci := 9) (N := n_X9_movedBy) (As := [.int a2, .int (I 302 ((6 * (I 292 18)) + a3).toNatClampNeg), .int (I 303 ((6 * (I 292 18)) + a3).toNatClampNeg), .int a6]) (st := []) (zd (i := .invokevirtual 341) (n := 3) (by decide +kernel)) to_X9_movedBy g1510 g1512 g78 (Nat.le_of_ble_eq_true rfl) (by decide +kernel) (by decide +kernel) (by decide +kernel) rfl rfl rfl hc kk
theorem w_X9_tells_115 {Q : qQ} {I : qMI} {L : qML} {R : qMR} {a1 : Int32} {a2 : Int32} {a3 : Int32} {a4 : Int32} {a5 : Int32} {a6 : Int32} {s0 : Int32} (k : wkB l G (d + 1) n_X9_tells Q 120 [.ref 292, .int a1, .int a2, .int a3, .int a4, .int a5, .int a6] [.int s0] I L R) : wkB l G (d + 1) n_X9_tells Q 115 [.ref 292, .int a1, .int a2, .int a3, .int a4, .int a5, .int a6] [.int s0] I L R :=
  bb_lift (fun _ => q_goto (off := 5) (tgt := 120) (zd (i := .goto (5)) (n := 3) (by decide +kernel)) (by decide)) k
theorem w_X9_tells_118 {Q : qQ} {I : qMI} {L : qML} {R : qMR} {a1 : Int32} {a2 : Int32} {a3 : Int32} {a4 : Int32} {a5 : Int32} {a6 : Int32} (k : wkB l G (d + 1) n_X9_tells Q 120 [.ref 292, .int a1, .int a2, .int a3, .int a4, .int a5, .int a6] [.int (-100)] I L R) : wkB l G (d + 1) n_X9_tells Q 118 [.ref 292, .int a1, .int a2, .int a3, .int a4, .int a5, .int a6] [] I L R :=
  bb_lift (fun _ => q_bipush (n := -100) (zd (i := .bipush (-100)) (n := 2) (by decide +kernel)) rfl) <|
  k
theorem w_X9_tells_120 {Q : qQ} {I : qMI} {L : qML} {R : qMR} {a1 : Int32} {a2 : Int32} {a3 : Int32} {a4 : Int32} {a5 : Int32} {a6 : Int32} {s0 : Int32} (hQ : Q (some (.int s0)) 336 I L R) : wkB l G (d + 1) n_X9_tells Q 120 [.ref 292, .int a1, .int a2, .int a3, .int a4, .int a5, .int a6] [.int s0] I L R :=
  (fun lv hl => q_iret (zd (i := .ireturn) (n := 1) (by decide +kernel)) rfl rfl (Nat.le_refl _) (Nat.le_refl _) hQ)
theorem w_X9_tells_121 {Q : qQ} {I : qMI} {L : qML} {R : qMR} {a1 : Int32} {a2 : Int32} {a3 : Int32} {a4 : Int32} {a5 : Int32} {a6 : Int32} (kt : a5 = 0 → wkB l G (d + 1) n_X9_tells Q 151 [.ref 292, .int a1, .int a2, .int a3, .int a4, .int a5, .int a6] [] I L R) (kf : ¬ a5 = 0 → wkB l G (d + 1) n_X9_tells Q 126 [.ref 292, .int a1, .int a2, .int a3, .int a4, .int a5, .int a6] [] I L R) : wkB l G (d + 1) n_X9_tells Q 121 [.ref 292, .int a1, .int a2, .int a3, .int a4, .int a5, .int a6] [] I L R :=
  bb_iload (i := 5) (zd (i := .iload 5) (n := 2) (by decide +kernel)) rfl <|
  (fun lv hl => q_if_eq (off := 28) (tgt := 151) (zd (i := .ifCond .eq (28)) (n := 3) (by decide +kernel)) (by decide) (fun h => (kt h) lv hl) (fun h => (kf h) lv hl))
theorem w_X9_tells_126 {Q : qQ} {I : qMI} {L : qML} {R : qMR} {a1 : Int32} {a2 : Int32} {a3 : Int32} {a4 : Int32} {a5 : Int32} {a6 : Int32} {P : Int32 → qMI → qML → Prop} (hc : wkI l G d n_X9_in [.int a4, .int 0, .int 999] I L R P) (kk : ∀ y I' L', P y I' L' → wkB l G (d + 1) n_X9_tells Q 135 [.ref 292, .int a1, .int a2, .int a3, .int a4, .int a5, .int a6] [.int y] I' L' R) : wkB l G (d + 1) n_X9_tells Q 126 [.ref 292, .int a1, .int a2, .int a3, .int a4, .int a5, .int a6] [] I L R :=
  bb_iload (i := 4) (zd (i := .iload 4) (n := 2) (by decide +kernel)) rfl <|
  bb_lift (fun _ => q_iconst (n := 0) (zd (i := .iconst (0)) (n := 1) (by decide +kernel)) rfl) <|
  bb_lift (fun _ => q_sipush (n := 999) (zd (i := .sipush (999)) (n := 3) (by decide +kernel)) rfl) <|
  bb_callSI (idx := 304) (N := n_X9_in) (As := [.int a4, .int 0, .int 999]) (st := []) (zd (i := .invokestatic 304) (n := 3) (by decide +kernel)) to_X9_in g1442 g1443 (Nat.le_of_ble_eq_true rfl) rfl rfl hc kk
theorem w_X9_tells_135 {Q : qQ} {I : qMI} {L : qML} {R : qMR} {a1 : Int32} {a2 : Int32} {a3 : Int32} {a4 : Int32} {a5 : Int32} {a6 : Int32} {s0 : Int32} (kt : s0 = 0 → wkB l G (d + 1) n_X9_tells Q 151 [.ref 292, .int a1, .int a2, .int a3, .int a4, .int a5, .int a6] [] I L R) (kf : ¬ s0 = 0 → wkB l G (d + 1) n_X9_tells Q 138 [.ref 292, .int a1, .int a2, .int a3, .int a4, .int a5, .int a6] [] I L R) : wkB l G (d + 1) n_X9_tells Q 135 [.ref 292, .int a1, .int a2, .int a3, .int a4, .int a5, .int a6] [.int s0] I L R :=
  (fun lv hl => q_if_eq (off := 16) (tgt := 151) (zd (i := .ifCond .eq (16)) (n := 3) (by decide +kernel)) (by decide) (fun h => (kt h) lv hl) (fun h => (kf h) lv hl))
theorem w_X9_tells_138 {Q : qQ} {I : qMI} {L : qML} {R : qMR} {a1 : Int32} {a2 : Int32} {a3 : Int32} {a4 : Int32} {a5 : Int32} {a6 : Int32} {P : Int32 → qMI → qML → Prop} (hc : wkI l G d n_X9_rentOf [.ref 292, .int a2, .int a3, .int a4, .int a6] I L R P) (kk : ∀ y I' L', P y I' L' → wkB l G (d + 1) n_X9_tells Q 148 [.ref 292, .int a1, .int a2, .int a3, .int a4, .int a5, .int a6] [.int y] I' L' R) : wkB l G (d + 1) n_X9_tells Q 138 [.ref 292, .int a1, .int a2, .int a3, .int a4, .int a5, .int a6] [] I L R :=
  bb_aload_n (n := 0) (i := 0) (zd (i := .aload_n 0) (n := 1) (by decide +kernel)) rfl rfl <|
  bb_iload_n (n := 2) (i := 2) (zd (i := .iload_n 2) (n := 1) (by decide +kernel)) rfl rfl <|
  bb_iload_n (n := 3) (i := 3) (zd (i := .iload_n 3) (n := 1) (by decide +kernel)) rfl rfl <|
  bb_iload (i := 4) (zd (i := .iload 4) (n := 2) (by decide +kernel)) rfl <|
  bb_iload (i := 6) (zd (i := .iload 6) (n := 2) (by decide +kernel)) rfl <|
  bb_callVI (idx := 355) (k := 292) (ci := 9) (N := n_X9_rentOf) (As := [.int a2, .int a3, .int a4, .int a6]) (st := []) (zd (i := .invokevirtual 355) (n := 3) (by decide +kernel)) to_X9_rentOf g1514 g1516 g79 (Nat.le_of_ble_eq_true rfl) (by decide +kernel) (by decide +kernel) (by decide +kernel) rfl rfl rfl hc kk
theorem w_X9_tells_148 {Q : qQ} {I : qMI} {L : qML} {R : qMR} {a1 : Int32} {a2 : Int32} {a3 : Int32} {a4 : Int32} {a5 : Int32} {a6 : Int32} {s0 : Int32} (k : wkB l G (d + 1) n_X9_tells Q 153 [.ref 292, .int a1, .int a2, .int a3, .int a4, .int a5, .int a6] [.int s0] I L R) : wkB l G (d + 1) n_X9_tells Q 148 [.ref 292, .int a1, .int a2, .int a3, .int a4, .int a5, .int a6] [.int s0] I L R :=
  bb_lift (fun _ => q_goto (off := 5) (tgt := 153) (zd (i := .goto (5)) (n := 3) (by decide +kernel)) (by decide)) k
theorem w_X9_tells_151 {Q : qQ} {I : qMI} {L : qML} {R : qMR} {a1 : Int32} {a2 : Int32} {a3 : Int32} {a4 : Int32} {a5 : Int32} {a6 : Int32} (k : wkB l G (d + 1) n_X9_tells Q 153 [.ref 292, .int a1, .int a2, .int a3, .int a4, .int a5, .int a6] [.int (-100)] I L R) : wkB l G (d + 1) n_X9_tells Q 151 [.ref 292, .int a1, .int a2, .int a3, .int a4, .int a5, .int a6] [] I L R :=
  bb_lift (fun _ => q_bipush (n := -100) (zd (i := .bipush (-100)) (n := 2) (by decide +kernel)) rfl) <|
  k
theorem w_X9_tells_153 {Q : qQ} {I : qMI} {L : qML} {R : qMR} {a1 : Int32} {a2 : Int32} {a3 : Int32} {a4 : Int32} {a5 : Int32} {a6 : Int32} {s0 : Int32} (hQ : Q (some (.int s0)) 336 I L R) : wkB l G (d + 1) n_X9_tells Q 153 [.ref 292, .int a1, .int a2, .int a3, .int a4, .int a5, .int a6] [.int s0] I L R :=
  (fun lv hl => q_iret (zd (i := .ireturn) (n := 1) (by decide +kernel)) rfl rfl (Nat.le_refl _) (Nat.le_refl _) hQ)
theorem w_X9_tells_154 {Q : qQ} {I : qMI} {L : qML} {R : qMR} {a1 : Int32} {a2 : Int32} {a3 : Int32} {a4 : Int32} {a5 : Int32} {a6 : Int32} {P : Int32 → qMI → qML → Prop} (hc : wkI l G d n_X9_in [.int a4, .int 0, .int 999] I L R P) (kk : ∀ y I' L', P y I' L' → wkB l G (d + 1) n_X9_tells Q 163 [.ref 292, .int a1, .int a2, .int a3, .int a4, .int a5, .int a6] [.int y] I' L' R) : wkB l G (d + 1) n_X9_tells Q 154 [.ref 292, .int a1, .int a2, .int a3, .int a4, .int a5, .int a6] [] I L R :=
  bb_iload (i := 4) (zd (i := .iload 4) (n := 2) (by decide +kernel)) rfl <|
  bb_lift (fun _ => q_iconst (n := 0) (zd (i := .iconst (0)) (n := 1) (by decide +kernel)) rfl) <|
  bb_lift (fun _ => q_sipush (n := 999) (zd (i := .sipush (999)) (n := 3) (by decide +kernel)) rfl) <|
  bb_callSI (idx := 304) (N := n_X9_in) (As := [.int a4, .int 0, .int 999]) (st := []) (zd (i := .invokestatic 304) (n := 3) (by decide +kernel)) to_X9_in g1442 g1443 (Nat.le_of_ble_eq_true rfl) rfl rfl hc kk
theorem w_X9_tells_163 {Q : qQ} {I : qMI} {L : qML} {R : qMR} {a1 : Int32} {a2 : Int32} {a3 : Int32} {a4 : Int32} {a5 : Int32} {a6 : Int32} {s0 : Int32} (kt : s0 = 0 → wkB l G (d + 1) n_X9_tells Q 177 [.ref 292, .int a1, .int a2, .int a3, .int a4, .int a5, .int a6] [] I L R) (kf : ¬ s0 = 0 → wkB l G (d + 1) n_X9_tells Q 166 [.ref 292, .int a1, .int a2, .int a3, .int a4, .int a5, .int a6] [] I L R) : wkB l G (d + 1) n_X9_tells Q 163 [.ref 292, .int a1, .int a2, .int a3, .int a4, .int a5, .int a6] [.int s0] I L R :=
  (fun lv hl => q_if_eq (off := 14) (tgt := 177) (zd (i := .ifCond .eq (14)) (n := 3) (by decide +kernel)) (by decide) (fun h => (kt h) lv hl) (fun h => (kf h) lv hl))
theorem w_X9_tells_166 {Q : qQ} {I : qMI} {L : qML} {R : qMR} {a1 : Int32} {a2 : Int32} {a3 : Int32} {a4 : Int32} {a5 : Int32} {a6 : Int32} {P : Int32 → qMI → qML → Prop} (hc : wkI l G d n_X9_interestOf [.ref 292, .int a4, .int a6] I L R P) (kk : ∀ y I' L', P y I' L' → wkB l G (d + 1) n_X9_tells Q 174 [.ref 292, .int a1, .int a2, .int a3, .int a4, .int a5, .int a6] [.int y] I' L' R) : wkB l G (d + 1) n_X9_tells Q 166 [.ref 292, .int a1, .int a2, .int a3, .int a4, .int a5, .int a6] [] I L R :=
  bb_aload_n (n := 0) (i := 0) (zd (i := .aload_n 0) (n := 1) (by decide +kernel)) rfl rfl <|
  bb_iload (i := 4) (zd (i := .iload 4) (n := 2) (by decide +kernel)) rfl <|
  bb_iload (i := 6) (zd (i := .iload 6) (n := 2) (by decide +kernel)) rfl <|
  bb_callVI (idx := 348) (k := 292) (ci := 9) (N := n_X9_interestOf) (As := [.int a4, .int a6]) (st := []) (zd (i := .invokevirtual 348) (n := 3) (by decide +kernel)) to_X9_interestOf g1518 g1520 g80 (Nat.le_of_ble_eq_true rfl) (by decide +kernel) (by decide +kernel) (by decide +kernel) rfl rfl rfl hc kk
theorem w_X9_tells_174 {Q : qQ} {I : qMI} {L : qML} {R : qMR} {a1 : Int32} {a2 : Int32} {a3 : Int32} {a4 : Int32} {a5 : Int32} {a6 : Int32} {s0 : Int32} (k : wkB l G (d + 1) n_X9_tells Q 179 [.ref 292, .int a1, .int a2, .int a3, .int a4, .int a5, .int a6] [.int s0] I L R) : wkB l G (d + 1) n_X9_tells Q 174 [.ref 292, .int a1, .int a2, .int a3, .int a4, .int a5, .int a6] [.int s0] I L R :=
  bb_lift (fun _ => q_goto (off := 5) (tgt := 179) (zd (i := .goto (5)) (n := 3) (by decide +kernel)) (by decide)) k
theorem w_X9_tells_177 {Q : qQ} {I : qMI} {L : qML} {R : qMR} {a1 : Int32} {a2 : Int32} {a3 : Int32} {a4 : Int32} {a5 : Int32} {a6 : Int32} (k : wkB l G (d + 1) n_X9_tells Q 179 [.ref 292, .int a1, .int a2, .int a3, .int a4, .int a5, .int a6] [.int (-100)] I L R) : wkB l G (d + 1) n_X9_tells Q 177 [.ref 292, .int a1, .int a2, .int a3, .int a4, .int a5, .int a6] [] I L R :=
  bb_lift (fun _ => q_bipush (n := -100) (zd (i := .bipush (-100)) (n := 2) (by decide +kernel)) rfl) <|
  k
theorem w_X9_tells_179 {Q : qQ} {I : qMI} {L : qML} {R : qMR} {a1 : Int32} {a2 : Int32} {a3 : Int32} {a4 : Int32} {a5 : Int32} {a6 : Int32} {s0 : Int32} (hQ : Q (some (.int s0)) 336 I L R) : wkB l G (d + 1) n_X9_tells Q 179 [.ref 292, .int a1, .int a2, .int a3, .int a4, .int a5, .int a6] [.int s0] I L R :=
  (fun lv hl => q_iret (zd (i := .ireturn) (n := 1) (by decide +kernel)) rfl rfl (Nat.le_refl _) (Nat.le_refl _) hQ)
theorem w_X9_tells_180 {Q : qQ} {I : qMI} {L : qML} {R : qMR} {a1 : Int32} {a2 : Int32} {a3 : Int32} {a4 : Int32} {a5 : Int32} {a6 : Int32} (hQ : Q (some (.int (-100))) 336 I L R) : wkB l G (d + 1) n_X9_tells Q 180 [.ref 292, .int a1, .int a2, .int a3, .int a4, .int a5, .int a6] [] I L R :=
  bb_lift (fun _ => q_bipush (n := -100) (zd (i := .bipush (-100)) (n := 2) (by decide +kernel)) rfl) <|
  (fun lv hl => q_iret (zd (i := .ireturn) (n := 1) (by decide +kernel)) rfl rfl (Nat.le_refl _) (Nat.le_refl _) hQ)
theorem w_X9_count_0 {Q : qQ} {I : qMI} {L : qML} {R : qMR} {a1 : Int32} {P : qMI → qML → Prop} (hc : wkV l G d n_X9_copies [.ref 292] I L R P) (kk : ∀ I' L', P I' L' → wkB l G (d + 1) n_X9_count Q 4 [.ref 292, .int a1, wkU, wkU] [] I' L' R) : wkB l G (d + 1) n_X9_count Q 0 [.ref 292, .int a1, wkU, wkU] [] I L R :=
  bb_aload_n (n := 0) (i := 0) (zd (i := .aload_n 0) (n := 1) (by decide +kernel)) rfl rfl <|
  bb_callVV (idx := 375) (k := 292) (ci := 9) (N := n_X9_copies) (As := []) (st := []) (zd (i := .invokevirtual 375) (n := 3) (by decide +kernel)) to_X9_copies g1445 g1447 g67 (Nat.le_of_ble_eq_true rfl) (by decide +kernel) (by decide +kernel) (by decide +kernel) rfl rfl rfl hc kk
theorem w_X9_count_4 {Q : qQ} {I : qMI} {L : qML} {R : qMR} {a1 : Int32} (k : qSwt (fun tg => wkB l G (d + 1) n_X9_count Q tg [.ref 292, .int a1, .int 0, wkU] [] I L R) a1 0 [88, 98, 108, 116, 127, 138, 167, 176, 185, 194, 199, 204, 209, 254, 267, 276, 288] 319) : wkB l G (d + 1) n_X9_count Q 4 [.ref 292, .int a1, wkU, wkU] [] I L R :=
  bb_lift (fun _ => q_iconst (n := 0) (zd (i := .iconst (0)) (n := 1) (by decide +kernel)) rfl) <|
  bb_istore_n (n := 2) (i := 2) (zd (i := .istore_n 2) (n := 1) (by decide +kernel)) rfl (by decide +kernel) (wkNl_i rfl) <|
  bb_iload_n (n := 1) (i := 1) (zd (i := .iload_n 1) (n := 1) (by decide +kernel)) rfl rfl <|
  bb_table (v := 0) (df := 319) (len := 81) (dflt := 312) (lo := 0) (hi := 16) (offs := #[81, 91, 101, 109, 120, 131, 160, 169, 178, 187, 192, 197, 202, 247, 260, 269, 281]) (tgts := [88, 98, 108, 116, 127, 138, 167, 176, 185, 194, 199, 204, 209, 254, 267, 276, 288]) (zd (i := .tableswitch (312) (0) (16) #[81, 91, 101, 109, 120, 131, 160, 169, 178, 187, 192, 197, 202, 247, 260, 269, 281]) (n := 81) (by decide +kernel)) rfl rfl (by decide +kernel) (by decide +kernel) (by decide +kernel) k
theorem w_X9_count_88 {Q : qQ} {I : qMI} {L : qML} {R : qMR} (hR : wkR R) {a1 : Int32} {a2 : Int32} (h1 : vp_in (I 292 18) 2) (hQ : Q (some (.int (I 301 (I 292 18).toNatClampNeg))) 336 I L R) : wkB l G (d + 1) n_X9_count Q 88 [.ref 292, .int a1, .int a2, wkU] [] I L R :=
  bb_aload_n (n := 0) (i := 0) (zd (i := .aload_n 0) (n := 1) (by decide +kernel)) rfl rfl <|
  bb_getr (k := 292) (ci := 9) (j := 22) (idx := 43) (a := 301) (zd (i := .getfield 43) (n := 3) (by decide +kernel)) (by decide +kernel) (by decide +kernel) (by decide +kernel) (by decide +kernel) rfl g1150 (hR 22 (by decide)) <|
  bb_aload_n (n := 0) (i := 0) (zd (i := .aload_n 0) (n := 1) (by decide +kernel)) rfl rfl <|
  bb_geti (k := 292) (ci := 9) (j := 18) (idx := 230) (zd (i := .getfield 230) (n := 3) (by decide +kernel)) (by decide +kernel) (by decide +kernel) (by decide +kernel) (by decide +kernel) rfl g1146 <|
  bb_lift (fun _ => q_iald (k := 301) (zd (i := .iaload) (n := 1) (by decide +kernel)) (by decide +kernel) (by decide +kernel) h1) <|
  (fun lv hl => q_iret (zd (i := .ireturn) (n := 1) (by decide +kernel)) rfl rfl (Nat.le_refl _) (Nat.le_refl _) hQ)
theorem w_X9_count_98 {Q : qQ} {I : qMI} {L : qML} {R : qMR} (hR : wkR R) {a1 : Int32} {a2 : Int32} (h1 : vp_in (I 292 18) 2) (hQ : Q (some (.int (I 304 (I 292 18).toNatClampNeg))) 336 I L R) : wkB l G (d + 1) n_X9_count Q 98 [.ref 292, .int a1, .int a2, wkU] [] I L R :=
  bb_aload_n (n := 0) (i := 0) (zd (i := .aload_n 0) (n := 1) (by decide +kernel)) rfl rfl <|
  bb_getr (k := 292) (ci := 9) (j := 25) (idx := 52) (a := 304) (zd (i := .getfield 52) (n := 3) (by decide +kernel)) (by decide +kernel) (by decide +kernel) (by decide +kernel) (by decide +kernel) rfl g1153 (hR 25 (by decide)) <|
  bb_aload_n (n := 0) (i := 0) (zd (i := .aload_n 0) (n := 1) (by decide +kernel)) rfl rfl <|
  bb_geti (k := 292) (ci := 9) (j := 18) (idx := 230) (zd (i := .getfield 230) (n := 3) (by decide +kernel)) (by decide +kernel) (by decide +kernel) (by decide +kernel) (by decide +kernel) rfl g1146 <|
  bb_lift (fun _ => q_iald (k := 304) (zd (i := .iaload) (n := 1) (by decide +kernel)) (by decide +kernel) (by decide +kernel) h1) <|
  (fun lv hl => q_iret (zd (i := .ireturn) (n := 1) (by decide +kernel)) rfl rfl (Nat.le_refl _) (Nat.le_refl _) hQ)
theorem w_X9_count_108 {Q : qQ} {I : qMI} {L : qML} {R : qMR} (hR : wkR R) {a1 : Int32} {a2 : Int32} (h1 : vp_in 96 97) (hQ : Q (some (.int (I 324 (96 : Int32).toNatClampNeg))) 336 I L R) : wkB l G (d + 1) n_X9_count Q 108 [.ref 292, .int a1, .int a2, wkU] [] I L R :=
  bb_aload_n (n := 0) (i := 0) (zd (i := .aload_n 0) (n := 1) (by decide +kernel)) rfl rfl <|
  bb_getr (k := 292) (ci := 9) (j := 49) (idx := 113) (a := 324) (zd (i := .getfield 113) (n := 3) (by decide +kernel)) (by decide +kernel) (by decide +kernel) (by decide +kernel) (by decide +kernel) rfl g1177 (hR 49 (by decide)) <|
  bb_lift (fun _ => q_bipush (n := 96) (zd (i := .bipush (96)) (n := 2) (by decide +kernel)) rfl) <|
  bb_lift (fun _ => q_iald (k := 324) (zd (i := .iaload) (n := 1) (by decide +kernel)) (by decide +kernel) (by decide +kernel) h1) <|
  (fun lv hl => q_iret (zd (i := .ireturn) (n := 1) (by decide +kernel)) rfl rfl (Nat.le_refl _) (Nat.le_refl _) hQ)
theorem w_X9_count_116 {Q : qQ} {I : qMI} {L : qML} {R : qMR} (hR : wkR R) {a1 : Int32} {a2 : Int32} (h1 : vp_in 96 97) (hQ : Q (some (.int ((I 324 (96 : Int32).toNatClampNeg) - (I 324 (96 : Int32).toNatClampNeg) / 24 * 24))) 336 I L R) : wkB l G (d + 1) n_X9_count Q 116 [.ref 292, .int a1, .int a2, wkU] [] I L R :=
  bb_aload_n (n := 0) (i := 0) (zd (i := .aload_n 0) (n := 1) (by decide +kernel)) rfl rfl <|
  bb_getr (k := 292) (ci := 9) (j := 49) (idx := 113) (a := 324) (zd (i := .getfield 113) (n := 3) (by decide +kernel)) (by decide +kernel) (by decide +kernel) (by decide +kernel) (by decide +kernel) rfl g1177 (hR 49 (by decide)) <|
  bb_lift (fun _ => q_bipush (n := 96) (zd (i := .bipush (96)) (n := 2) (by decide +kernel)) rfl) <|
  bb_lift (fun _ => q_iald (k := 324) (zd (i := .iaload) (n := 1) (by decide +kernel)) (by decide +kernel) (by decide +kernel) h1) <|
  bb_lift (fun _ => q_bipush (n := 24) (zd (i := .bipush (24)) (n := 2) (by decide +kernel)) rfl) <|
  bb_lift (fun _ => q_irem (zd (i := .irem) (n := 1) (by decide +kernel)) (by decide)) <|
  (fun lv hl => q_iret (zd (i := .ireturn) (n := 1) (by decide +kernel)) rfl rfl (Nat.le_refl _) (Nat.le_refl _) hQ)
theorem w_X9_count_127 {Q : qQ} {I : qMI} {L : qML} {R : qMR} (hR : wkR R) {a1 : Int32} {a2 : Int32} (h1 : vp_in 96 97) (hQ : Q (some (.int ((I 324 (96 : Int32).toNatClampNeg) / 24))) 336 I L R) : wkB l G (d + 1) n_X9_count Q 127 [.ref 292, .int a1, .int a2, wkU] [] I L R :=
  bb_aload_n (n := 0) (i := 0) (zd (i := .aload_n 0) (n := 1) (by decide +kernel)) rfl rfl <|
  bb_getr (k := 292) (ci := 9) (j := 49) (idx := 113) (a := 324) (zd (i := .getfield 113) (n := 3) (by decide +kernel)) (by decide +kernel) (by decide +kernel) (by decide +kernel) (by decide +kernel) rfl g1177 (hR 49 (by decide)) <|
  bb_lift (fun _ => q_bipush (n := 96) (zd (i := .bipush (96)) (n := 2) (by decide +kernel)) rfl) <|
  bb_lift (fun _ => q_iald (k := 324) (zd (i := .iaload) (n := 1) (by decide +kernel)) (by decide +kernel) (by decide +kernel) h1) <|
  bb_lift (fun _ => q_bipush (n := 24) (zd (i := .bipush (24)) (n := 2) (by decide +kernel)) rfl) <|
  bb_lift (fun _ => q_idiv (zd (i := .idiv) (n := 1) (by decide +kernel)) (by decide)) <|
  (fun lv hl => q_iret (zd (i := .ireturn) (n := 1) (by decide +kernel)) rfl rfl (Nat.le_refl _) (Nat.le_refl _) hQ)
theorem w_X9_count_138 {Q : qQ} {I : qMI} {L : qML} {R : qMR} {a1 : Int32} {a2 : Int32} (k : wkB l G (d + 1) n_X9_count Q 141 [.ref 292, .int a1, .int a2, .int 24] [] I L R) : wkB l G (d + 1) n_X9_count Q 138 [.ref 292, .int a1, .int a2, wkU] [] I L R :=
  bb_lift (fun _ => q_bipush (n := 24) (zd (i := .bipush (24)) (n := 2) (by decide +kernel)) rfl) <|
  bb_istore_n (n := 3) (i := 3) (zd (i := .istore_n 3) (n := 1) (by decide +kernel)) rfl (by decide +kernel) (wkNl_i rfl) <|
  k
theorem w_X9_count_141 {Q : qQ} {I : qMI} {L : qML} {R : qMR} {a1 : Int32} {a2 : Int32} {a3 : Int32} (kt : 60 ≤ a3 → wkB l G (d + 1) n_X9_count Q 165 [.ref 292, .int a1, .int a2, .int a3] [] I L R) (kf : ¬ 60 ≤ a3 → wkB l G (d + 1) n_X9_count Q 147 [.ref 292, .int a1, .int a2, .int a3] [] I L R) : wkB l G (d + 1) n_X9_count Q 141 [.ref 292, .int a1, .int a2, .int a3] [] I L R :=
  bb_iload_n (n := 3) (i := 3) (zd (i := .iload_n 3) (n := 1) (by decide +kernel)) rfl rfl <|
  bb_lift (fun _ => q_bipush (n := 60) (zd (i := .bipush (60)) (n := 2) (by decide +kernel)) rfl) <|
  (fun lv hl => q_icmp_ge (off := 21) (tgt := 165) (zd (i := .if_icmp .ge (21)) (n := 3) (by decide +kernel)) (by decide) (fun h => (kt h) lv hl) (fun h => (kf h) lv hl))
theorem w_X9_count_147 {Q : qQ} {I : qMI} {L : qML} {R : qMR} (hR : wkR R) {a1 : Int32} {a2 : Int32} {a3 : Int32} (h1 : vp_in a3 97) (kt : (I 324 a3.toNatClampNeg) ≤ 0 → wkB l G (d + 1) n_X9_count Q 159 [.ref 292, .int a1, .int a2, .int a3] [] I L R) (kf : ¬ (I 324 a3.toNatClampNeg) ≤ 0 → wkB l G (d + 1) n_X9_count Q 156 [.ref 292, .int a1, .int a2, .int a3] [] I L R) : wkB l G (d + 1) n_X9_count Q 147 [.ref 292, .int a1, .int a2, .int a3] [] I L R :=
  bb_aload_n (n := 0) (i := 0) (zd (i := .aload_n 0) (n := 1) (by decide +kernel)) rfl rfl <|
  bb_getr (k := 292) (ci := 9) (j := 49) (idx := 113) (a := 324) (zd (i := .getfield 113) (n := 3) (by decide +kernel)) (by decide +kernel) (by decide +kernel) (by decide +kernel) (by decide +kernel) rfl g1177 (hR 49 (by decide)) <|
  bb_iload_n (n := 3) (i := 3) (zd (i := .iload_n 3) (n := 1) (by decide +kernel)) rfl rfl <|
  bb_lift (fun _ => q_iald (k := 324) (zd (i := .iaload) (n := 1) (by decide +kernel)) (by decide +kernel) (by decide +kernel) h1) <|
  (fun lv hl => q_if_le (off := 6) (tgt := 159) (zd (i := .ifCond .le (6)) (n := 3) (by decide +kernel)) (by decide) (fun h => (kt h) lv hl) (fun h => (kf h) lv hl))
theorem w_X9_count_156 {Q : qQ} {I : qMI} {L : qML} {R : qMR} {a1 : Int32} {a2 : Int32} {a3 : Int32} (k : wkB l G (d + 1) n_X9_count Q 159 [.ref 292, .int a1, .int (a2 + 1), .int a3] [] I L R) : wkB l G (d + 1) n_X9_count Q 156 [.ref 292, .int a1, .int a2, .int a3] [] I L R :=
  bb_iinc (i := 2) (n := 1) (zd (i := .iinc 2 (1)) (n := 3) (by decide +kernel)) rfl rfl (by decide +kernel) (wkNl_i rfl) <|
  k
theorem w_X9_count_159 {Q : qQ} {I : qMI} {L : qML} {R : qMR} {a1 : Int32} {a2 : Int32} {a3 : Int32} (k : wkB l G (d + 1) n_X9_count Q 141 [.ref 292, .int a1, .int a2, .int (a3 + 1)] [] I L R) : wkB l G (d + 1) n_X9_count Q 159 [.ref 292, .int a1, .int a2, .int a3] [] I L R :=
  bb_iinc (i := 3) (n := 1) (zd (i := .iinc 3 (1)) (n := 3) (by decide +kernel)) rfl rfl (by decide +kernel) (wkNl_i rfl) <|
  bb_lift (fun _ => q_goto (off := -21) (tgt := 141) (zd (i := .goto (-21)) (n := 3) (by decide +kernel)) (by decide)) k
theorem w_X9_count_165 {Q : qQ} {I : qMI} {L : qML} {R : qMR} {a1 : Int32} {a2 : Int32} {a3 : Int32} (hQ : Q (some (.int a2)) 336 I L R) : wkB l G (d + 1) n_X9_count Q 165 [.ref 292, .int a1, .int a2, .int a3] [] I L R :=
  bb_iload_n (n := 2) (i := 2) (zd (i := .iload_n 2) (n := 1) (by decide +kernel)) rfl rfl <|
  (fun lv hl => q_iret (zd (i := .ireturn) (n := 1) (by decide +kernel)) rfl rfl (Nat.le_refl _) (Nat.le_refl _) hQ)
theorem w_X9_count_167 {Q : qQ} {I : qMI} {L : qML} {R : qMR} {a1 : Int32} {a2 : Int32} {P : Int32 → qMI → qML → Prop} (hc : wkI l G d n_X9_sumNow [.ref 292, .int 24, .int 36] I L R P) (kk : ∀ y I' L', P y I' L' → wkB l G (d + 1) n_X9_count Q 175 [.ref 292, .int a1, .int a2, wkU] [.int y] I' L' R) : wkB l G (d + 1) n_X9_count Q 167 [.ref 292, .int a1, .int a2, wkU] [] I L R :=
  bb_aload_n (n := 0) (i := 0) (zd (i := .aload_n 0) (n := 1) (by decide +kernel)) rfl rfl <|
  bb_lift (fun _ => q_bipush (n := 24) (zd (i := .bipush (24)) (n := 2) (by decide +kernel)) rfl) <|
  bb_lift (fun _ => q_bipush (n := 36) (zd (i := .bipush (36)) (n := 2) (by decide +kernel)) rfl) <|
  bb_callVI (idx := 431) (k := 292) (ci := 9) (N := n_X9_sumNow) (As := [.int 24, .int 36]) (st := []) (zd (i := .invokevirtual 431) (n := 3) (by decide +kernel)) to_X9_sumNow g1709 g1711 g95 (Nat.le_of_ble_eq_true rfl) (by decide +kernel) (by decide +kernel) (by decide +kernel) rfl rfl rfl hc kk
theorem w_X9_count_175 {Q : qQ} {I : qMI} {L : qML} {R : qMR} {a1 : Int32} {a2 : Int32} {s0 : Int32} (hQ : Q (some (.int s0)) 336 I L R) : wkB l G (d + 1) n_X9_count Q 175 [.ref 292, .int a1, .int a2, wkU] [.int s0] I L R :=
  (fun lv hl => q_iret (zd (i := .ireturn) (n := 1) (by decide +kernel)) rfl rfl (Nat.le_refl _) (Nat.le_refl _) hQ)
theorem w_X9_count_176 {Q : qQ} {I : qMI} {L : qML} {R : qMR} {a1 : Int32} {a2 : Int32} {P : Int32 → qMI → qML → Prop} (hc : wkI l G d n_X9_sumNow [.ref 292, .int 6, .int 6] I L R P) (kk : ∀ y I' L', P y I' L' → wkB l G (d + 1) n_X9_count Q 184 [.ref 292, .int a1, .int a2, wkU] [.int y] I' L' R) : wkB l G (d + 1) n_X9_count Q 176 [.ref 292, .int a1, .int a2, wkU] [] I L R :=
  bb_aload_n (n := 0) (i := 0) (zd (i := .aload_n 0) (n := 1) (by decide +kernel)) rfl rfl <|
  bb_lift (fun _ => q_bipush (n := 6) (zd (i := .bipush (6)) (n := 2) (by decide +kernel)) rfl) <|
  bb_lift (fun _ => q_bipush (n := 6) (zd (i := .bipush (6)) (n := 2) (by decide +kernel)) rfl) <|
  bb_callVI (idx := 431) (k := 292) (ci := 9) (N := n_X9_sumNow) (As := [.int 6, .int 6]) (st := []) (zd (i := .invokevirtual 431) (n := 3) (by decide +kernel)) to_X9_sumNow g1709 g1711 g95 (Nat.le_of_ble_eq_true rfl) (by decide +kernel) (by decide +kernel) (by decide +kernel) rfl rfl rfl hc kk
theorem w_X9_count_184 {Q : qQ} {I : qMI} {L : qML} {R : qMR} {a1 : Int32} {a2 : Int32} {s0 : Int32} (hQ : Q (some (.int s0)) 336 I L R) : wkB l G (d + 1) n_X9_count Q 184 [.ref 292, .int a1, .int a2, wkU] [.int s0] I L R :=
  (fun lv hl => q_iret (zd (i := .ireturn) (n := 1) (by decide +kernel)) rfl rfl (Nat.le_refl _) (Nat.le_refl _) hQ)
theorem w_X9_count_185 {Q : qQ} {I : qMI} {L : qML} {R : qMR} {a1 : Int32} {a2 : Int32} {P : Int32 → qMI → qML → Prop} (hc : wkI l G d n_X9_sumNow [.ref 292, .int 12, .int 6] I L R P) (kk : ∀ y I' L', P y I' L' → wkB l G (d + 1) n_X9_count Q 193 [.ref 292, .int a1, .int a2, wkU] [.int y] I' L' R) : wkB l G (d + 1) n_X9_count Q 185 [.ref 292, .int a1, .int a2, wkU] [] I L R :=
  bb_aload_n (n := 0) (i := 0) (zd (i := .aload_n 0) (n := 1) (by decide +kernel)) rfl rfl <|
  bb_lift (fun _ => q_bipush (n := 12) (zd (i := .bipush (12)) (n := 2) (by decide +kernel)) rfl) <|
  bb_lift (fun _ => q_bipush (n := 6) (zd (i := .bipush (6)) (n := 2) (by decide +kernel)) rfl) <|
  bb_callVI (idx := 431) (k := 292) (ci := 9) (N := n_X9_sumNow) (As := [.int 12, .int 6]) (st := []) (zd (i := .invokevirtual 431) (n := 3) (by decide +kernel)) to_X9_sumNow g1709 g1711 g95 (Nat.le_of_ble_eq_true rfl) (by decide +kernel) (by decide +kernel) (by decide +kernel) rfl rfl rfl hc kk
theorem w_X9_count_193 {Q : qQ} {I : qMI} {L : qML} {R : qMR} {a1 : Int32} {a2 : Int32} {s0 : Int32} (hQ : Q (some (.int s0)) 336 I L R) : wkB l G (d + 1) n_X9_count Q 193 [.ref 292, .int a1, .int a2, wkU] [.int s0] I L R :=
  (fun lv hl => q_iret (zd (i := .ireturn) (n := 1) (by decide +kernel)) rfl rfl (Nat.le_refl _) (Nat.le_refl _) hQ)
theorem w_X9_count_194 {Q : qQ} {I : qMI} {L : qML} {R : qMR} {a1 : Int32} {a2 : Int32} (hQ : Q (some (.int (I 292 2))) 336 I L R) : wkB l G (d + 1) n_X9_count Q 194 [.ref 292, .int a1, .int a2, wkU] [] I L R :=
  bb_aload_n (n := 0) (i := 0) (zd (i := .aload_n 0) (n := 1) (by decide +kernel)) rfl rfl <|
  bb_geti (k := 292) (ci := 9) (j := 2) (idx := 167) (zd (i := .getfield 167) (n := 3) (by decide +kernel)) (by decide +kernel) (by decide +kernel) (by decide +kernel) (by decide +kernel) rfl g1130 <|
  (fun lv hl => q_iret (zd (i := .ireturn) (n := 1) (by decide +kernel)) rfl rfl (Nat.le_refl _) (Nat.le_refl _) hQ)
theorem w_X9_count_199 {Q : qQ} {I : qMI} {L : qML} {R : qMR} {a1 : Int32} {a2 : Int32} (hQ : Q (some (.int (I 292 51))) 336 I L R) : wkB l G (d + 1) n_X9_count Q 199 [.ref 292, .int a1, .int a2, wkU] [] I L R :=
  bb_aload_n (n := 0) (i := 0) (zd (i := .aload_n 0) (n := 1) (by decide +kernel)) rfl rfl <|
  bb_geti (k := 292) (ci := 9) (j := 51) (idx := 248) (zd (i := .getfield 248) (n := 3) (by decide +kernel)) (by decide +kernel) (by decide +kernel) (by decide +kernel) (by decide +kernel) rfl g1179 <|
  (fun lv hl => q_iret (zd (i := .ireturn) (n := 1) (by decide +kernel)) rfl rfl (Nat.le_refl _) (Nat.le_refl _) hQ)
theorem w_X9_count_204 {Q : qQ} {I : qMI} {L : qML} {R : qMR} {a1 : Int32} {a2 : Int32} (hQ : Q (some (.int (I 292 58))) 336 I L R) : wkB l G (d + 1) n_X9_count Q 204 [.ref 292, .int a1, .int a2, wkU] [] I L R :=
  bb_aload_n (n := 0) (i := 0) (zd (i := .aload_n 0) (n := 1) (by decide +kernel)) rfl rfl <|
  bb_geti (k := 292) (ci := 9) (j := 58) (idx := 251) (zd (i := .getfield 251) (n := 3) (by decide +kernel)) (by decide +kernel) (by decide +kernel) (by decide +kernel) (by decide +kernel) rfl g1186 <|
  (fun lv hl => q_iret (zd (i := .ireturn) (n := 1) (by decide +kernel)) rfl rfl (Nat.le_refl _) (Nat.le_refl _) hQ)
theorem w_X9_count_209 {Q : qQ} {I : qMI} {L : qML} {R : qMR} (hR : wkR R) {a1 : Int32} {a2 : Int32} (h1 : vp_in 0 3) (kt : (I 334 (0 : Int32).toNatClampNeg) = 0 → wkB l G (d + 1) n_X9_count Q 222 [.ref 292, .int a1, .int a2, wkU] [] I L R) (kf : ¬ (I 334 (0 : Int32).toNatClampNeg) = 0 → wkB l G (d + 1) n_X9_count Q 218 [.ref 292, .int a1, .int a2, wkU] [] I L R) : wkB l G (d + 1) n_X9_count Q 209 [.ref 292, .int a1, .int a2, wkU] [] I L R :=
  bb_aload_n (n := 0) (i := 0) (zd (i := .aload_n 0) (n := 1) (by decide +kernel)) rfl rfl <|
  bb_getr (k := 292) (ci := 9) (j := 63) (idx := 143) (a := 334) (zd (i := .getfield 143) (n := 3) (by decide +kernel)) (by decide +kernel) (by decide +kernel) (by decide +kernel) (by decide +kernel) rfl g1191 (hR 63 (by decide)) <|
  bb_lift (fun _ => q_iconst (n := 0) (zd (i := .iconst (0)) (n := 1) (by decide +kernel)) rfl) <|
  bb_lift (fun _ => q_zald (k := 334) (zd (i := .baload) (n := 1) (by decide +kernel)) (by decide +kernel) (by decide +kernel) h1) <|
  (fun lv hl => q_if_eq (off := 7) (tgt := 222) (zd (i := .ifCond .eq (7)) (n := 3) (by decide +kernel)) (by decide) (fun h => (kt h) lv hl) (fun h => (kf h) lv hl))
theorem w_X9_count_218 {Q : qQ} {I : qMI} {L : qML} {R : qMR} {a1 : Int32} {a2 : Int32} (k : wkB l G (d + 1) n_X9_count Q 223 [.ref 292, .int a1, .int a2, wkU] [.int 1] I L R) : wkB l G (d + 1) n_X9_count Q 218 [.ref 292, .int a1, .int a2, wkU] [] I L R :=
  bb_lift (fun _ => q_iconst (n := 1) (zd (i := .iconst (1)) (n := 1) (by decide +kernel)) rfl) <|
  bb_lift (fun _ => q_goto (off := 4) (tgt := 223) (zd (i := .goto (4)) (n := 3) (by decide +kernel)) (by decide)) k
theorem w_X9_count_222 {Q : qQ} {I : qMI} {L : qML} {R : qMR} {a1 : Int32} {a2 : Int32} (k : wkB l G (d + 1) n_X9_count Q 223 [.ref 292, .int a1, .int a2, wkU] [.int 0] I L R) : wkB l G (d + 1) n_X9_count Q 222 [.ref 292, .int a1, .int a2, wkU] [] I L R :=
  bb_lift (fun _ => q_iconst (n := 0) (zd (i := .iconst (0)) (n := 1) (by decide +kernel)) rfl) <|
  k
theorem w_X9_count_223 {Q : qQ} {I : qMI} {L : qML} {R : qMR} (hR : wkR R) {a1 : Int32} {a2 : Int32} {s0 : Int32} (h1 : vp_in 1 3) (kt : (I 334 (1 : Int32).toNatClampNeg) = 0 → wkB l G (d + 1) n_X9_count Q 236 [.ref 292, .int a1, .int a2, wkU] [.int s0] I L R) (kf : ¬ (I 334 (1 : Int32).toNatClampNeg) = 0 → wkB l G (d + 1) n_X9_count Q 232 [.ref 292, .int a1, .int a2, wkU] [.int s0] I L R) : wkB l G (d + 1) n_X9_count Q 223 [.ref 292, .int a1, .int a2, wkU] [.int s0] I L R :=
  bb_aload_n (n := 0) (i := 0) (zd (i := .aload_n 0) (n := 1) (by decide +kernel)) rfl rfl <|
  bb_getr (k := 292) (ci := 9) (j := 63) (idx := 143) (a := 334) (zd (i := .getfield 143) (n := 3) (by decide +kernel)) (by decide +kernel) (by decide +kernel) (by decide +kernel) (by decide +kernel) rfl g1191 (hR 63 (by decide)) <|
  bb_lift (fun _ => q_iconst (n := 1) (zd (i := .iconst (1)) (n := 1) (by decide +kernel)) rfl) <|
  bb_lift (fun _ => q_zald (k := 334) (zd (i := .baload) (n := 1) (by decide +kernel)) (by decide +kernel) (by decide +kernel) h1) <|
  (fun lv hl => q_if_eq (off := 7) (tgt := 236) (zd (i := .ifCond .eq (7)) (n := 3) (by decide +kernel)) (by decide) (fun h => (kt h) lv hl) (fun h => (kf h) lv hl))
theorem w_X9_count_232 {Q : qQ} {I : qMI} {L : qML} {R : qMR} {a1 : Int32} {a2 : Int32} {s0 : Int32} (k : wkB l G (d + 1) n_X9_count Q 237 [.ref 292, .int a1, .int a2, wkU] [.int 1, .int s0] I L R) : wkB l G (d + 1) n_X9_count Q 232 [.ref 292, .int a1, .int a2, wkU] [.int s0] I L R :=
  bb_lift (fun _ => q_iconst (n := 1) (zd (i := .iconst (1)) (n := 1) (by decide +kernel)) rfl) <|
  bb_lift (fun _ => q_goto (off := 4) (tgt := 237) (zd (i := .goto (4)) (n := 3) (by decide +kernel)) (by decide)) k
theorem w_X9_count_236 {Q : qQ} {I : qMI} {L : qML} {R : qMR} {a1 : Int32} {a2 : Int32} {s0 : Int32} (k : wkB l G (d + 1) n_X9_count Q 237 [.ref 292, .int a1, .int a2, wkU] [.int 0, .int s0] I L R) : wkB l G (d + 1) n_X9_count Q 236 [.ref 292, .int a1, .int a2, wkU] [.int s0] I L R :=
  bb_lift (fun _ => q_iconst (n := 0) (zd (i := .iconst (0)) (n := 1) (by decide +kernel)) rfl) <|
  k
theorem w_X9_count_237 {Q : qQ} {I : qMI} {L : qML} {R : qMR} (hR : wkR R) {a1 : Int32} {a2 : Int32} {s0 : Int32} {s1 : Int32} (h1 : vp_in 2 3) (kt : (I 334 (2 : Int32).toNatClampNeg) = 0 → wkB l G (d + 1) n_X9_count Q 251 [.ref 292, .int a1, .int a2, wkU] [.int (s0 + s1)] I L R) (kf : ¬ (I 334 (2 : Int32).toNatClampNeg) = 0 → wkB l G (d + 1) n_X9_count Q 247 [.ref 292, .int a1, .int a2, wkU] [.int (s0 + s1)] I L R) : wkB l G (d + 1) n_X9_count Q 237 [.ref 292, .int a1, .int a2, wkU] [.int s1, .int s0] I L R :=
  bb_lift (fun _ => q_iadd (zd (i := .iadd) (n := 1) (by decide +kernel))) <|
  bb_aload_n (n := 0) (i := 0) (zd (i := .aload_n 0) (n := 1) (by decide +kernel)) rfl rfl <|
  bb_getr (k := 292) (ci := 9) (j := 63) (idx := 143) (a := 334) (zd (i := .getfield 143) (n := 3) (by decide +kernel)) (by decide +kernel) (by decide +kernel) (by decide +kernel) (by decide +kernel) rfl g1191 (hR 63 (by decide)) <|
  bb_lift (fun _ => q_iconst (n := 2) (zd (i := .iconst (2)) (n := 1) (by decide +kernel)) rfl) <|
  bb_lift (fun _ => q_zald (k := 334) (zd (i := .baload) (n := 1) (by decide +kernel)) (by decide +kernel) (by decide +kernel) h1) <|
  (fun lv hl => q_if_eq (off := 7) (tgt := 251) (zd (i := .ifCond .eq (7)) (n := 3) (by decide +kernel)) (by decide) (fun h => (kt h) lv hl) (fun h => (kf h) lv hl))
theorem w_X9_count_247 {Q : qQ} {I : qMI} {L : qML} {R : qMR} {a1 : Int32} {a2 : Int32} {s0 : Int32} (k : wkB l G (d + 1) n_X9_count Q 252 [.ref 292, .int a1, .int a2, wkU] [.int 1, .int s0] I L R) : wkB l G (d + 1) n_X9_count Q 247 [.ref 292, .int a1, .int a2, wkU] [.int s0] I L R :=
  bb_lift (fun _ => q_iconst (n := 1) (zd (i := .iconst (1)) (n := 1) (by decide +kernel)) rfl) <|
  bb_lift (fun _ => q_goto (off := 4) (tgt := 252) (zd (i := .goto (4)) (n := 3) (by decide +kernel)) (by decide)) k
theorem w_X9_count_251 {Q : qQ} {I : qMI} {L : qML} {R : qMR} {a1 : Int32} {a2 : Int32} {s0 : Int32} (k : wkB l G (d + 1) n_X9_count Q 252 [.ref 292, .int a1, .int a2, wkU] [.int 0, .int s0] I L R) : wkB l G (d + 1) n_X9_count Q 251 [.ref 292, .int a1, .int a2, wkU] [.int s0] I L R :=
  bb_lift (fun _ => q_iconst (n := 0) (zd (i := .iconst (0)) (n := 1) (by decide +kernel)) rfl) <|
  k
theorem w_X9_count_252 {Q : qQ} {I : qMI} {L : qML} {R : qMR} {a1 : Int32} {a2 : Int32} {s0 : Int32} {s1 : Int32} (hQ : Q (some (.int (s0 + s1))) 336 I L R) : wkB l G (d + 1) n_X9_count Q 252 [.ref 292, .int a1, .int a2, wkU] [.int s1, .int s0] I L R :=
  bb_lift (fun _ => q_iadd (zd (i := .iadd) (n := 1) (by decide +kernel))) <|
  (fun lv hl => q_iret (zd (i := .ireturn) (n := 1) (by decide +kernel)) rfl rfl (Nat.le_refl _) (Nat.le_refl _) hQ)
theorem w_X9_count_254 {Q : qQ} {I : qMI} {L : qML} {R : qMR} {a1 : Int32} {a2 : Int32} {P : Int32 → qMI → qML → Prop} (hc : wkI l G d n_X9_isWind [.ref 292] I L R P) (kk : ∀ y I' L', P y I' L' → wkB l G (d + 1) n_X9_count Q 258 [.ref 292, .int a1, .int a2, wkU] [.int y] I' L' R) : wkB l G (d + 1) n_X9_count Q 254 [.ref 292, .int a1, .int a2, wkU] [] I L R :=
  bb_aload_n (n := 0) (i := 0) (zd (i := .aload_n 0) (n := 1) (by decide +kernel)) rfl rfl <|
  bb_callVI (idx := 361) (k := 292) (ci := 9) (N := n_X9_isWind) (As := []) (st := []) (zd (i := .invokevirtual 361) (n := 3) (by decide +kernel)) to_X9_isWind g1554 g1556 g84 (Nat.le_of_ble_eq_true rfl) (by decide +kernel) (by decide +kernel) (by decide +kernel) rfl rfl rfl hc kk
theorem w_X9_count_258 {Q : qQ} {I : qMI} {L : qML} {R : qMR} {a1 : Int32} {a2 : Int32} {s0 : Int32} (kt : s0 = 0 → wkB l G (d + 1) n_X9_count Q 265 [.ref 292, .int a1, .int a2, wkU] [] I L R) (kf : ¬ s0 = 0 → wkB l G (d + 1) n_X9_count Q 261 [.ref 292, .int a1, .int a2, wkU] [] I L R) : wkB l G (d + 1) n_X9_count Q 258 [.ref 292, .int a1, .int a2, wkU] [.int s0] I L R :=
  (fun lv hl => q_if_eq (off := 7) (tgt := 265) (zd (i := .ifCond .eq (7)) (n := 3) (by decide +kernel)) (by decide) (fun h => (kt h) lv hl) (fun h => (kf h) lv hl))
theorem w_X9_count_261 {Q : qQ} {I : qMI} {L : qML} {R : qMR} {a1 : Int32} {a2 : Int32} (k : wkB l G (d + 1) n_X9_count Q 266 [.ref 292, .int a1, .int a2, wkU] [.int 1] I L R) : wkB l G (d + 1) n_X9_count Q 261 [.ref 292, .int a1, .int a2, wkU] [] I L R :=
  bb_lift (fun _ => q_iconst (n := 1) (zd (i := .iconst (1)) (n := 1) (by decide +kernel)) rfl) <|
  bb_lift (fun _ => q_goto (off := 4) (tgt := 266) (zd (i := .goto (4)) (n := 3) (by decide +kernel)) (by decide)) k
theorem w_X9_count_265 {Q : qQ} {I : qMI} {L : qML} {R : qMR} {a1 : Int32} {a2 : Int32} (k : wkB l G (d + 1) n_X9_count Q 266 [.ref 292, .int a1, .int a2, wkU] [.int 0] I L R) : wkB l G (d + 1) n_X9_count Q 265 [.ref 292, .int a1, .int a2, wkU] [] I L R :=
  bb_lift (fun _ => q_iconst (n := 0) (zd (i := .iconst (0)) (n := 1) (by decide +kernel)) rfl) <|
  k
theorem w_X9_count_266 {Q : qQ} {I : qMI} {L : qML} {R : qMR} {a1 : Int32} {a2 : Int32} {s0 : Int32} (hQ : Q (some (.int s0)) 336 I L R) : wkB l G (d + 1) n_X9_count Q 266 [.ref 292, .int a1, .int a2, wkU] [.int s0] I L R :=
  (fun lv hl => q_iret (zd (i := .ireturn) (n := 1) (by decide +kernel)) rfl rfl (Nat.le_refl _) (Nat.le_refl _) hQ)
theorem w_X9_count_267 {Q : qQ} {I : qMI} {L : qML} {R : qMR} {a1 : Int32} {a2 : Int32} {P : Int32 → qMI → qML → Prop} (hc : wkI l G d n_X9_sumNow [.ref 292, .int 18, .int 6] I L R P) (kk : ∀ y I' L', P y I' L' → wkB l G (d + 1) n_X9_count Q 275 [.ref 292, .int a1, .int a2, wkU] [.int y] I' L' R) : wkB l G (d + 1) n_X9_count Q 267 [.ref 292, .int a1, .int a2, wkU] [] I L R :=
  bb_aload_n (n := 0) (i := 0) (zd (i := .aload_n 0) (n := 1) (by decide +kernel)) rfl rfl <|
  bb_lift (fun _ => q_bipush (n := 18) (zd (i := .bipush (18)) (n := 2) (by decide +kernel)) rfl) <|
  bb_lift (fun _ => q_bipush (n := 6) (zd (i := .bipush (6)) (n := 2) (by decide +kernel)) rfl) <|
  bb_callVI (idx := 431) (k := 292) (ci := 9) (N := n_X9_sumNow) (As := [.int 18, .int 6]) (st := []) (zd (i := .invokevirtual 431) (n := 3) (by decide +kernel)) to_X9_sumNow g1709 g1711 g95 (Nat.le_of_ble_eq_true rfl) (by decide +kernel) (by decide +kernel) (by decide +kernel) rfl rfl rfl hc kk
theorem w_X9_count_275 {Q : qQ} {I : qMI} {L : qML} {R : qMR} {a1 : Int32} {a2 : Int32} {s0 : Int32} (hQ : Q (some (.int s0)) 336 I L R) : wkB l G (d + 1) n_X9_count Q 275 [.ref 292, .int a1, .int a2, wkU] [.int s0] I L R :=
  (fun lv hl => q_iret (zd (i := .ireturn) (n := 1) (by decide +kernel)) rfl rfl (Nat.le_refl _) (Nat.le_refl _) hQ)
theorem w_X9_count_276 {Q : qQ} {I : qMI} {L : qML} {R : qMR} (hR : wkR R) {a1 : Int32} {a2 : Int32} (h1 : vp_in 96 97) {P : Int32 → qMI → qML → Prop} (hc : wkI l G d n_X9_heatAt [.ref 292, .int (I 324 (96 : Int32).toNatClampNeg)] I L R P) (kk : ∀ y I' L', P y I' L' → wkB l G (d + 1) n_X9_count Q 287 [.ref 292, .int a1, .int a2, wkU] [.int y] I' L' R) : wkB l G (d + 1) n_X9_count Q 276 [.ref 292, .int a1, .int a2, wkU] [] I L R :=
  bb_aload_n (n := 0) (i := 0) (zd (i := .aload_n 0) (n := 1) (by decide +kernel)) rfl rfl <|
  bb_aload_n (n := 0) (i := 0) (zd (i := .aload_n 0) (n := 1) (by decide +kernel)) rfl rfl <|
  bb_getr (k := 292) (ci := 9) (j := 49) (idx := 113) (a := 324) (zd (i := .getfield 113) (n := 3) (by decide +kernel)) (by decide +kernel) (by decide +kernel) (by decide +kernel) (by decide +kernel) rfl g1177 (hR 49 (by decide)) <|
  bb_lift (fun _ => q_bipush (n := 96) (zd (i := .bipush (96)) (n := 2) (by decide +kernel)) rfl) <|
  bb_lift (fun _ => q_iald (k := 324) (zd (i := .iaload) (n := 1) (by decide +kernel)) (by decide +kernel) (by decide +kernel) h1) <|
  bb_callVI (idx := 327) (k := 292) (ci := 9) (N := n_X9_heatAt) (As := [.int (I 324 (96 : Int32).toNatClampNeg)]) (st := []) (zd (i := .invokevirtual 327) (n := 3) (by decide +kernel)) to_X9_heatAt g1461 g1463 g71 (Nat.le_of_ble_eq_true rfl) (by decide +kernel) (by decide +kernel) (by decide +kernel) rfl rfl rfl hc kk
theorem w_X9_count_287 {Q : qQ} {I : qMI} {L : qML} {R : qMR} {a1 : Int32} {a2 : Int32} {s0 : Int32} (hQ : Q (some (.int s0)) 336 I L R) : wkB l G (d + 1) n_X9_count Q 287 [.ref 292, .int a1, .int a2, wkU] [.int s0] I L R :=
  (fun lv hl => q_iret (zd (i := .ireturn) (n := 1) (by decide +kernel)) rfl rfl (Nat.le_refl _) (Nat.le_refl _) hQ)
theorem w_X9_count_288 {Q : qQ} {I : qMI} {L : qML} {R : qMR} {a1 : Int32} {a2 : Int32} (k : wkB l G (d + 1) n_X9_count Q 290 [.ref 292, .int a1, .int a2, .int 0] [] I L R) : wkB l G (d + 1) n_X9_count Q 288 [.ref 292, .int a1, .int a2, wkU] [] I L R :=
  bb_lift (fun _ => q_iconst (n := 0) (zd (i := .iconst (0)) (n := 1) (by decide +kernel)) rfl) <|
  bb_istore_n (n := 3) (i := 3) (zd (i := .istore_n 3) (n := 1) (by decide +kernel)) rfl (by decide +kernel) (wkNl_i rfl) <|
  k
theorem w_X9_count_290 {Q : qQ} {I : qMI} {L : qML} {R : qMR} (hR : wkR R) {a1 : Int32} {a2 : Int32} {a3 : Int32} (h1 : vp_in (I 292 18) 2) (kt : (I 304 (I 292 18).toNatClampNeg) ≤ a3 → wkB l G (d + 1) n_X9_count Q 317 [.ref 292, .int a1, .int a2, .int a3] [] I L R) (kf : ¬ (I 304 (I 292 18).toNatClampNeg) ≤ a3 → wkB l G (d + 1) n_X9_count Q 303 [.ref 292, .int a1, .int a2, .int a3] [] I L R) : wkB l G (d + 1) n_X9_count Q 290 [.ref 292, .int a1, .int a2, .int a3] [] I L R :=
  bb_iload_n (n := 3) (i := 3) (zd (i := .iload_n 3) (n := 1) (by decide +kernel)) rfl rfl <|
  bb_aload_n (n := 0) (i := 0) (zd (i := .aload_n 0) (n := 1) (by decide +kernel)) rfl rfl <|
  bb_getr (k := 292) (ci := 9) (j := 25) (idx := 52) (a := 304) (zd (i := .getfield 52) (n := 3) (by decide +kernel)) (by decide +kernel) (by decide +kernel) (by decide +kernel) (by decide +kernel) rfl g1153 (hR 25 (by decide)) <|
  bb_aload_n (n := 0) (i := 0) (zd (i := .aload_n 0) (n := 1) (by decide +kernel)) rfl rfl <|
  bb_geti (k := 292) (ci := 9) (j := 18) (idx := 230) (zd (i := .getfield 230) (n := 3) (by decide +kernel)) (by decide +kernel) (by decide +kernel) (by decide +kernel) (by decide +kernel) rfl g1146 <|
  bb_lift (fun _ => q_iald (k := 304) (zd (i := .iaload) (n := 1) (by decide +kernel)) (by decide +kernel) (by decide +kernel) h1) <|
  (fun lv hl => q_icmp_ge (off := 17) (tgt := 317) (zd (i := .if_icmp .ge (17)) (n := 3) (by decide +kernel)) (by decide) (fun h => (kt h) lv hl) (fun h => (kf h) lv hl))
theorem w_X9_count_303 {Q : qQ} {I : qMI} {L : qML} {R : qMR} {a1 : Int32} {a2 : Int32} {a3 : Int32} {P : Int32 → qMI → qML → Prop} (hc : wkI l G d n_X9_seesBits [.ref 292, .int a3] I L R P) (kk : ∀ y I' L', P y I' L' → wkB l G (d + 1) n_X9_count Q 309 [.ref 292, .int a1, .int a2, .int a3] [.int y, .int a2] I' L' R) : wkB l G (d + 1) n_X9_count Q 303 [.ref 292, .int a1, .int a2, .int a3] [] I L R :=
  bb_iload_n (n := 2) (i := 2) (zd (i := .iload_n 2) (n := 1) (by decide +kernel)) rfl rfl <|
  bb_aload_n (n := 0) (i := 0) (zd (i := .aload_n 0) (n := 1) (by decide +kernel)) rfl rfl <|
  bb_iload_n (n := 3) (i := 3) (zd (i := .iload_n 3) (n := 1) (by decide +kernel)) rfl rfl <|
  bb_callVI (idx := 381) (k := 292) (ci := 9) (N := n_X9_seesBits) (As := [.int a3]) (st := [.int a2]) (zd (i := .invokevirtual 381) (n := 3) (by decide +kernel)) to_X9_seesBits g1491 g1493 g76 (Nat.le_of_ble_eq_true rfl) (by decide +kernel) (by decide +kernel) (by decide +kernel) rfl rfl rfl hc kk
theorem w_X9_count_309 {Q : qQ} {I : qMI} {L : qML} {R : qMR} {a1 : Int32} {a2 : Int32} {a3 : Int32} {s0 : Int32} {s1 : Int32} (k : wkB l G (d + 1) n_X9_count Q 290 [.ref 292, .int a1, .int (s0 ||| s1), .int (a3 + 1)] [] I L R) : wkB l G (d + 1) n_X9_count Q 309 [.ref 292, .int a1, .int a2, .int a3] [.int s1, .int s0] I L R :=
  bb_lift (fun _ => q_ior (zd (i := .ior) (n := 1) (by decide +kernel))) <|
  bb_istore_n (n := 2) (i := 2) (zd (i := .istore_n 2) (n := 1) (by decide +kernel)) rfl (by decide +kernel) (wkNl_i rfl) <|
  bb_iinc (i := 3) (n := 1) (zd (i := .iinc 3 (1)) (n := 3) (by decide +kernel)) rfl rfl (by decide +kernel) (wkNl_i rfl) <|
  bb_lift (fun _ => q_goto (off := -24) (tgt := 290) (zd (i := .goto (-24)) (n := 3) (by decide +kernel)) (by decide)) k
theorem w_X9_count_317 {Q : qQ} {I : qMI} {L : qML} {R : qMR} {a1 : Int32} {a2 : Int32} {a3 : Int32} (hQ : Q (some (.int a2)) 336 I L R) : wkB l G (d + 1) n_X9_count Q 317 [.ref 292, .int a1, .int a2, .int a3] [] I L R :=
  bb_iload_n (n := 2) (i := 2) (zd (i := .iload_n 2) (n := 1) (by decide +kernel)) rfl rfl <|
  (fun lv hl => q_iret (zd (i := .ireturn) (n := 1) (by decide +kernel)) rfl rfl (Nat.le_refl _) (Nat.le_refl _) hQ)
theorem w_X9_count_319 {Q : qQ} {I : qMI} {L : qML} {R : qMR} {a1 : Int32} {a2 : Int32} (hQ : Q (some (.int (-1))) 336 I L R) : wkB l G (d + 1) n_X9_count Q 319 [.ref 292, .int a1, .int a2, wkU] [] I L R :=
  bb_lift (fun _ => q_iconst (n := -1) (zd (i := .iconst (-1)) (n := 1) (by decide +kernel)) rfl) <|
  (fun lv hl => q_iret (zd (i := .ireturn) (n := 1) (by decide +kernel)) rfl rfl (Nat.le_refl _) (Nat.le_refl _) hQ)
theorem w_X9_sight_0 {Q : qQ} {I : qMI} {L : qML} {R : qMR} {a1 : Int32} {a2 : Int32} {a3 : Int32} {P : Int32 → qMI → qML → Prop} (hc : wkI l G d n_X9_isX [.int a1] I L R P) (kk : ∀ y I' L', P y I' L' → wkB l G (d + 1) n_X9_sight Q 4 [.ref 292, .int a1, .int a2, .int a3] [.int y] I' L' R) : wkB l G (d + 1) n_X9_sight Q 0 [.ref 292, .int a1, .int a2, .int a3] [] I L R :=
  bb_iload_n (n := 1) (i := 1) (zd (i := .iload_n 1) (n := 1) (by decide +kernel)) rfl rfl <|
  bb_callSI (idx := 387) (N := n_X9_isX) (As := [.int a1]) (st := []) (zd (i := .invokestatic 387) (n := 3) (by decide +kernel)) to_X9_isX g1507 g1508 (Nat.le_of_ble_eq_true rfl) rfl rfl hc kk
theorem w_X9_sight_4 {Q : qQ} {I : qMI} {L : qML} {R : qMR} {a1 : Int32} {a2 : Int32} {a3 : Int32} {s0 : Int32} (kt : s0 = 0 → wkB l G (d + 1) n_X9_sight Q 40 [.ref 292, .int a1, .int a2, .int a3] [] I L R) (kf : ¬ s0 = 0 → wkB l G (d + 1) n_X9_sight Q 7 [.ref 292, .int a1, .int a2, .int a3] [] I L R) : wkB l G (d + 1) n_X9_sight Q 4 [.ref 292, .int a1, .int a2, .int a3] [.int s0] I L R :=
  (fun lv hl => q_if_eq (off := 36) (tgt := 40) (zd (i := .ifCond .eq (36)) (n := 3) (by decide +kernel)) (by decide) (fun h => (kt h) lv hl) (fun h => (kf h) lv hl))
theorem w_X9_sight_7 {Q : qQ} {I : qMI} {L : qML} {R : qMR} {a1 : Int32} {a2 : Int32} {a3 : Int32} {P : Int32 → qMI → qML → Prop} (hc : wkI l G d n_X9_isThing [.ref 292, .int a2] I L R P) (kk : ∀ y I' L', P y I' L' → wkB l G (d + 1) n_X9_sight Q 12 [.ref 292, .int a1, .int a2, .int a3] [.int y] I' L' R) : wkB l G (d + 1) n_X9_sight Q 7 [.ref 292, .int a1, .int a2, .int a3] [] I L R :=
  bb_aload_n (n := 0) (i := 0) (zd (i := .aload_n 0) (n := 1) (by decide +kernel)) rfl rfl <|
  bb_iload_n (n := 2) (i := 2) (zd (i := .iload_n 2) (n := 1) (by decide +kernel)) rfl rfl <|
  bb_callVI (idx := 372) (k := 292) (ci := 9) (N := n_X9_isThing) (As := [.int a2]) (st := []) (zd (i := .invokevirtual 372) (n := 3) (by decide +kernel)) to_X9_isThing g1438 g1440 g66 (Nat.le_of_ble_eq_true rfl) (by decide +kernel) (by decide +kernel) (by decide +kernel) rfl rfl rfl hc kk
theorem w_X9_sight_12 {Q : qQ} {I : qMI} {L : qML} {R : qMR} {a1 : Int32} {a2 : Int32} {a3 : Int32} {s0 : Int32} (kt : s0 = 0 → wkB l G (d + 1) n_X9_sight Q 40 [.ref 292, .int a1, .int a2, .int a3] [] I L R) (kf : ¬ s0 = 0 → wkB l G (d + 1) n_X9_sight Q 15 [.ref 292, .int a1, .int a2, .int a3] [] I L R) : wkB l G (d + 1) n_X9_sight Q 12 [.ref 292, .int a1, .int a2, .int a3] [.int s0] I L R :=
  (fun lv hl => q_if_eq (off := 28) (tgt := 40) (zd (i := .ifCond .eq (28)) (n := 3) (by decide +kernel)) (by decide) (fun h => (kt h) lv hl) (fun h => (kf h) lv hl))
theorem w_X9_sight_15 {Q : qQ} {I : qMI} {L : qML} {R : qMR} {a1 : Int32} {a2 : Int32} {a3 : Int32} {P : Int32 → qMI → qML → Prop} (hc : wkI l G d n_X9_isLong [.int a3] I L R P) (kk : ∀ y I' L', P y I' L' → wkB l G (d + 1) n_X9_sight Q 19 [.ref 292, .int a1, .int a2, .int a3] [.int y] I' L' R) : wkB l G (d + 1) n_X9_sight Q 15 [.ref 292, .int a1, .int a2, .int a3] [] I L R :=
  bb_iload_n (n := 3) (i := 3) (zd (i := .iload_n 3) (n := 1) (by decide +kernel)) rfl rfl <|
  bb_callSI (idx := 393) (N := n_X9_isLong) (As := [.int a3]) (st := []) (zd (i := .invokestatic 393) (n := 3) (by decide +kernel)) to_X9_isLong g1543 g1544 (Nat.le_of_ble_eq_true rfl) rfl rfl hc kk
theorem w_X9_sight_19 {Q : qQ} {I : qMI} {L : qML} {R : qMR} {a1 : Int32} {a2 : Int32} {a3 : Int32} {s0 : Int32} (kt : s0 = 0 → wkB l G (d + 1) n_X9_sight Q 40 [.ref 292, .int a1, .int a2, .int a3] [] I L R) (kf : ¬ s0 = 0 → wkB l G (d + 1) n_X9_sight Q 22 [.ref 292, .int a1, .int a2, .int a3] [] I L R) : wkB l G (d + 1) n_X9_sight Q 19 [.ref 292, .int a1, .int a2, .int a3] [.int s0] I L R :=
  (fun lv hl => q_if_eq (off := 21) (tgt := 40) (zd (i := .ifCond .eq (21)) (n := 3) (by decide +kernel)) (by decide) (fun h => (kt h) lv hl) (fun h => (kf h) lv hl))
theorem w_X9_sight_22 {Q : qQ} {I : qMI} {L : qML} {R : qMR} (hR : wkR R) {a1 : Int32} {a2 : Int32} {a3 : Int32} (h1 : vp_in 96 97) {P : Int32 → qMI → qML → Prop} (hc : wkI l G d n_X9_sightOf [.ref 292, .int a1, .int a2, .int ((I 323 (96 : Int32).toNatClampNeg) + a3)] I L R P) (kk : ∀ y I' L', P y I' L' → wkB l G (d + 1) n_X9_sight Q 37 [.ref 292, .int a1, .int a2, .int a3] [.int y] I' L' R) : wkB l G (d + 1) n_X9_sight Q 22 [.ref 292, .int a1, .int a2, .int a3] [] I L R :=
  bb_aload_n (n := 0) (i := 0) (zd (i := .aload_n 0) (n := 1) (by decide +kernel)) rfl rfl <|
  bb_iload_n (n := 1) (i := 1) (zd (i := .iload_n 1) (n := 1) (by decide +kernel)) rfl rfl <|
  bb_iload_n (n := 2) (i := 2) (zd (i := .iload_n 2) (n := 1) (by decide +kernel)) rfl rfl <|
  bb_aload_n (n := 0) (i := 0) (zd (i := .aload_n 0) (n := 1) (by decide +kernel)) rfl rfl <|
  bb_getr (k := 292) (ci := 9) (j := 48) (idx := 110) (a := 323) (zd (i := .getfield 110) (n := 3) (by decide +kernel)) (by decide +kernel) (by decide +kernel) (by decide +kernel) (by decide +kernel) rfl g1176 (hR 48 (by decide)) <|
  bb_lift (fun _ => q_bipush (n := 96) (zd (i := .bipush (96)) (n := 2) (by decide +kernel)) rfl) <|
  bb_lift (fun _ => q_iald (k := 323) (zd (i := .iaload) (n := 1) (by decide +kernel)) (by decide +kernel) (by decide +kernel) h1) <|
  bb_iload_n (n := 3) (i := 3) (zd (i := .iload_n 3) (n := 1) (by decide +kernel)) rfl rfl <|
  bb_lift (fun _ => q_iadd (zd (i := .iadd) (n := 1) (by decide +kernel))) <|
  bb_callVI (idx := 399) (k := 292) (ci := 9) (N := n_X9_sightOf) (As := [.int a1, .int a2, .int ((I 323 (96 : Int32).toNatClampNeg) + a3)]) (st := []) (zd (i := .invokevirtual 399) (n := 3) (by decide +kernel)) to_X9_sightOf g1578 g1580 g87 (Nat.le_of_ble_eq_true rfl) (by decide +kernel) (by decide +kernel) (by decide +kernel) rfl rfl rfl hc kk
theorem w_X9_sight_37 {Q : qQ} {I : qMI} {L : qML} {R : qMR} {a1 : Int32} {a2 : Int32} {a3 : Int32} {s0 : Int32} (k : wkB l G (d + 1) n_X9_sight Q 41 [.ref 292, .int a1, .int a2, .int a3] [.int s0] I L R) : wkB l G (d + 1) n_X9_sight Q 37 [.ref 292, .int a1, .int a2, .int a3] [.int s0] I L R :=
  bb_lift (fun _ => q_goto (off := 4) (tgt := 41) (zd (i := .goto (4)) (n := 3) (by decide +kernel)) (by decide)) k
theorem w_X9_sight_40 {Q : qQ} {I : qMI} {L : qML} {R : qMR} {a1 : Int32} {a2 : Int32} {a3 : Int32} (k : wkB l G (d + 1) n_X9_sight Q 41 [.ref 292, .int a1, .int a2, .int a3] [.int (-1)] I L R) : wkB l G (d + 1) n_X9_sight Q 40 [.ref 292, .int a1, .int a2, .int a3] [] I L R :=
  bb_lift (fun _ => q_iconst (n := -1) (zd (i := .iconst (-1)) (n := 1) (by decide +kernel)) rfl) <|
  k
theorem w_X9_sight_41 {Q : qQ} {I : qMI} {L : qML} {R : qMR} {a1 : Int32} {a2 : Int32} {a3 : Int32} {s0 : Int32} (hQ : Q (some (.int s0)) 336 I L R) : wkB l G (d + 1) n_X9_sight Q 41 [.ref 292, .int a1, .int a2, .int a3] [.int s0] I L R :=
  (fun lv hl => q_iret (zd (i := .ireturn) (n := 1) (by decide +kernel)) rfl rfl (Nat.le_refl _) (Nat.le_refl _) hQ)
end
