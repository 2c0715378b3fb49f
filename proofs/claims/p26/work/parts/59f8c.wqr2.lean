section
variable {l : Launch} {G : qG} {d : Nat}
theorem w_X9_heatIn_0 {Q : qQ} {I : qMI} {L : qML} {R : qMR} {a1 : Int32} {P : Int32 → qMI → qML → Prop} (hc : wkI l G d n_X9_isLong [.int a1] I L R P) (kk : ∀ y I' L', P y I' L' → wkB l G (d + 1) n_X9_heatIn Q 4 [.ref 292, .int a1] [.int y] I' L' R) : wkB l G (d + 1) n_X9_heatIn Q 0 [.ref 292, .int a1] [] I L R :=
  bb_iload_n (n := 1) (i := 1) (zd (i := .iload_n 1) (n := 1) (by decide +kernel)) rfl rfl <|
  bb_callSI (idx := 393) (N := n_X9_isLong) (As := [.int a1]) (st := []) (zd (i := .invokestatic 393) (n := 3) (by decide +kernel)) to_X9_isLong g1543 g1544 (Nat.le_of_ble_eq_true rfl) rfl rfl hc kk
theorem w_X9_heatIn_4 {Q : qQ} {I : qMI} {L : qML} {R : qMR} {a1 : Int32} {s0 : Int32} (kt : s0 = 0 → wkB l G (d + 1) n_X9_heatIn Q 23 [.ref 292, .int a1] [] I L R) (kf : ¬ s0 = 0 → wkB l G (d + 1) n_X9_heatIn Q 7 [.ref 292, .int a1] [] I L R) : wkB l G (d + 1) n_X9_heatIn Q 4 [.ref 292, .int a1] [.int s0] I L R :=
  (fun lv hl => q_if_eq (off := 19) (tgt := 23) (zd (i := .ifCond .eq (19)) (n := 3) (by decide +kernel)) (by decide) (fun h => (kt h) lv hl) (fun h => (kf h) lv hl))
theorem w_X9_heatIn_7 {Q : qQ} {I : qMI} {L : qML} {R : qMR} (hR : wkR R) {a1 : Int32} (h1 : vp_in 96 97) {P : Int32 → qMI → qML → Prop} (hc : wkI l G d n_X9_heatAt [.ref 292, .int ((I 323 (96 : Int32).toNatClampNeg) + a1)] I L R P) (kk : ∀ y I' L', P y I' L' → wkB l G (d + 1) n_X9_heatIn Q 20 [.ref 292, .int a1] [.int y] I' L' R) : wkB l G (d + 1) n_X9_heatIn Q 7 [.ref 292, .int a1] [] I L R :=
  bb_aload_n (n := 0) (i := 0) (zd (i := .aload_n 0) (n := 1) (by decide +kernel)) rfl rfl <|
  bb_aload_n (n := 0) (i := 0) (zd (i := .aload_n 0) (n := 1) (by decide +kernel)) rfl rfl <|
  bb_getr (k := 292) (ci := 9) (j := 48) (idx := 110) (a := 323) (zd (i := .getfield 110) (n := 3) (by decide +kernel)) (by decide +kernel) (by decide +kernel) (by decide +kernel) (by decide +kernel) rfl g1176 (hR 48 (by decide)) <|
  bb_lift (fun _ => q_bipush (n := 96) (zd (i := .bipush (96)) (n := 2) (by decide +kernel)) rfl) <|
  bb_lift (fun _ => q_iald (k := 323) (zd (i := .iaload) (n := 1) (by decide +kernel)) (by decide +kernel) (by decide +kernel) h1) <|
  bb_iload_n (n := 1) (i := 1) (zd (i := .iload_n 1) (n := 1) (by decide +kernel)) rfl rfl <|
  bb_lift (fun _ => q_iadd (zd (i := .iadd) (n := 1) (by decide +kernel))) <|
  bb_callVI (idx := 327) (k := 292) (ci := 9) (N := n_X9_heatAt) (As := [.int ((I 323 (96 : Int32).toNatClampNeg) + a1)]) (st := []) (zd (i := .invokevirtual 327) (n := 3) (by decide +kernel)) to_X9_heatAt g1461 g1463 g71 (Nat.le_of_ble_eq_true rfl) (by decide +kernel) (by decide +kernel) (by decide +kernel) rfl rfl rfl hc kk
theorem w_X9_heatIn_20 {Q : qQ} {I : qMI} {L : qML} {R : qMR} {a1 : Int32} {s0 : Int32} (k : wkB l G (d + 1) n_X9_heatIn Q 24 [.ref 292, .int a1] [.int s0] I L R) : wkB l G (d + 1) n_X9_heatIn Q 20 [.ref 292, .int a1] [.int s0] I L R :=
  bb_lift (fun _ => q_goto (off := 4) (tgt := 24) (zd (i := .goto (4)) (n := 3) (by decide +kernel)) (by decide)) k
theorem w_X9_heatIn_23 {Q : qQ} {I : qMI} {L : qML} {R : qMR} {a1 : Int32} (k : wkB l G (d + 1) n_X9_heatIn Q 24 [.ref 292, .int a1] [.int (-1)] I L R) : wkB l G (d + 1) n_X9_heatIn Q 23 [.ref 292, .int a1] [] I L R :=
  bb_lift (fun _ => q_iconst (n := -1) (zd (i := .iconst (-1)) (n := 1) (by decide +kernel)) rfl) <|
  k
theorem w_X9_heatIn_24 {Q : qQ} {I : qMI} {L : qML} {R : qMR} {a1 : Int32} {s0 : Int32} (hQ : Q (some (.int s0)) 336 I L R) : wkB l G (d + 1) n_X9_heatIn Q 24 [.ref 292, .int a1] [.int s0] I L R :=
  (fun lv hl => q_iret (zd (i := .ireturn) (n := 1) (by decide +kernel)) rfl rfl (Nat.le_refl _) (Nat.le_refl _) hQ)
theorem w_X9_dawns_0 {Q : qQ} {I : qMI} {L : qML} {R : qMR} {a1 : Int32} {a2 : Int32} {P : Int32 → qMI → qML → Prop} (hc : wkI l G d n_X9_isX [.int a1] I L R P) (kk : ∀ y I' L', P y I' L' → wkB l G (d + 1) n_X9_dawns Q 4 [.ref 292, .int a1, .int a2, wkU] [.int y] I' L' R) : wkB l G (d + 1) n_X9_dawns Q 0 [.ref 292, .int a1, .int a2, wkU] [] I L R :=
  bb_iload_n (n := 1) (i := 1) (zd (i := .iload_n 1) (n := 1) (by decide +kernel)) rfl rfl <|
  bb_callSI (idx := 387) (N := n_X9_isX) (As := [.int a1]) (st := []) (zd (i := .invokestatic 387) (n := 3) (by decide +kernel)) to_X9_isX g1507 g1508 (Nat.le_of_ble_eq_true rfl) rfl rfl hc kk
theorem w_X9_dawns_4 {Q : qQ} {I : qMI} {L : qML} {R : qMR} {a1 : Int32} {a2 : Int32} {s0 : Int32} (kt : s0 = 0 → wkB l G (d + 1) n_X9_dawns Q 15 [.ref 292, .int a1, .int a2, wkU] [] I L R) (kf : ¬ s0 = 0 → wkB l G (d + 1) n_X9_dawns Q 7 [.ref 292, .int a1, .int a2, wkU] [] I L R) : wkB l G (d + 1) n_X9_dawns Q 4 [.ref 292, .int a1, .int a2, wkU] [.int s0] I L R :=
  (fun lv hl => q_if_eq (off := 11) (tgt := 15) (zd (i := .ifCond .eq (11)) (n := 3) (by decide +kernel)) (by decide) (fun h => (kt h) lv hl) (fun h => (kf h) lv hl))
theorem w_X9_dawns_7 {Q : qQ} {I : qMI} {L : qML} {R : qMR} {a1 : Int32} {a2 : Int32} {P : Int32 → qMI → qML → Prop} (hc : wkI l G d n_X9_isThing [.ref 292, .int a2] I L R P) (kk : ∀ y I' L', P y I' L' → wkB l G (d + 1) n_X9_dawns Q 12 [.ref 292, .int a1, .int a2, wkU] [.int y] I' L' R) : wkB l G (d + 1) n_X9_dawns Q 7 [.ref 292, .int a1, .int a2, wkU] [] I L R :=
  bb_aload_n (n := 0) (i := 0) (zd (i := .aload_n 0) (n := 1) (by decide +kernel)) rfl rfl <|
  bb_iload_n (n := 2) (i := 2) (zd (i := .iload_n 2) (n := 1) (by decide +kernel)) rfl rfl <|
  bb_callVI (idx := 372) (k := 292) (ci := 9) (N := n_X9_isThing) (As := [.int a2]) (st := []) (zd (i := .invokevirtual 372) (n := 3) (by decide +kernel)) to_X9_isThing g1438 g1440 g66 (Nat.le_of_ble_eq_true rfl) (by decide +kernel) (by decide +kernel) (by decide +kernel) rfl rfl rfl hc kk
theorem w_X9_dawns_12 {Q : qQ} {I : qMI} {L : qML} {R : qMR} {a1 : Int32} {a2 : Int32} {s0 : Int32} (kt : ¬ s0 = 0 → wkB l G (d + 1) n_X9_dawns Q 17 [.ref 292, .int a1, .int a2, wkU] [] I L R) (kf : s0 = 0 → wkB l G (d + 1) n_X9_dawns Q 15 [.ref 292, .int a1, .int a2, wkU] [] I L R) : wkB l G (d + 1) n_X9_dawns Q 12 [.ref 292, .int a1, .int a2, wkU] [.int s0] I L R :=
  (fun lv hl => q_if_ne (off := 5) (tgt := 17) (zd (i := .ifCond .ne (5)) (n := 3) (by decide +kernel)) (by decide) (fun h => (kt h) lv hl) (fun h => (kf h) lv hl))
theorem w_X9_dawns_15 {Q : qQ} {I : qMI} {L : qML} {R : qMR} {a1 : Int32} {a2 : Int32} (hQ : Q (some (.int (-1))) 336 I L R) : wkB l G (d + 1) n_X9_dawns Q 15 [.ref 292, .int a1, .int a2, wkU] [] I L R :=
  bb_lift (fun _ => q_iconst (n := -1) (zd (i := .iconst (-1)) (n := 1) (by decide +kernel)) rfl) <|
  (fun lv hl => q_iret (zd (i := .ireturn) (n := 1) (by decide +kernel)) rfl rfl (Nat.le_refl _) (Nat.le_refl _) hQ)
theorem w_X9_dawns_17 {Q : qQ} {I : qMI} {L : qML} {R : qMR} {a1 : Int32} {a2 : Int32} (k : wkB l G (d + 1) n_X9_dawns Q 19 [.ref 292, .int a1, .int a2, .int 0] [] I L R) : wkB l G (d + 1) n_X9_dawns Q 17 [.ref 292, .int a1, .int a2, wkU] [] I L R :=
  bb_lift (fun _ => q_iconst (n := 0) (zd (i := .iconst (0)) (n := 1) (by decide +kernel)) rfl) <|
  bb_istore_n (n := 3) (i := 3) (zd (i := .istore_n 3) (n := 1) (by decide +kernel)) rfl (by decide +kernel) (wkNl_i rfl) <|
  k
theorem w_X9_dawns_19 {Q : qQ} {I : qMI} {L : qML} {R : qMR} {a1 : Int32} {a2 : Int32} {a3 : Int32} (kt : 48 < a3 → wkB l G (d + 1) n_X9_dawns Q 51 [.ref 292, .int a1, .int a2, .int a3] [] I L R) (kf : ¬ 48 < a3 → wkB l G (d + 1) n_X9_dawns Q 25 [.ref 292, .int a1, .int a2, .int a3] [] I L R) : wkB l G (d + 1) n_X9_dawns Q 19 [.ref 292, .int a1, .int a2, .int a3] [] I L R :=
  bb_iload_n (n := 3) (i := 3) (zd (i := .iload_n 3) (n := 1) (by decide +kernel)) rfl rfl <|
  bb_lift (fun _ => q_bipush (n := 48) (zd (i := .bipush (48)) (n := 2) (by decide +kernel)) rfl) <|
  (fun lv hl => q_icmp_gt (off := 29) (tgt := 51) (zd (i := .if_icmp .gt (29)) (n := 3) (by decide +kernel)) (by decide) (fun h => (kt h) lv hl) (fun h => (kf h) lv hl))
theorem w_X9_dawns_25 {Q : qQ} {I : qMI} {L : qML} {R : qMR} (hR : wkR R) {a1 : Int32} {a2 : Int32} {a3 : Int32} (h1 : vp_in 96 97) {P : Int32 → qMI → qML → Prop} (hc : wkI l G d n_X9_sees [.ref 292, .int a1, .int a2, .int ((I 323 (96 : Int32).toNatClampNeg) + a3)] I L R P) (kk : ∀ y I' L', P y I' L' → wkB l G (d + 1) n_X9_dawns Q 40 [.ref 292, .int a1, .int a2, .int a3] [.int y] I' L' R) : wkB l G (d + 1) n_X9_dawns Q 25 [.ref 292, .int a1, .int a2, .int a3] [] I L R :=
  bb_aload_n (n := 0) (i := 0) (zd (i := .aload_n 0) (n := 1) (by decide +kernel)) rfl rfl <|
  bb_iload_n (n := 1) (i := 1) (zd (i := .iload_n 1) (n := 1) (by decide +kernel)) rfl rfl <|
  bb_iload_n (n := 2) (i := 2) (zd (i := .iload_n 2) (n := 1) (by decide +kernel)) rfl rfl <|
  bb_aload_n (n := 0) (i := 0) (zd (i := .aload_n 0) (n := 1) (by decide +kernel)) rfl rfl <|
  bb_getr (k := 292) (ci := 9) (j := 48) (idx := 110) (a := 323) (zd (i := .getfield 110) (n := 3) (by decide +kernel)) (by decide +kernel) (by decide +kernel) (by decide +kernel) (by decide +kernel) rfl g1176 (hR 48 (by decide)) <|
  bb_lift (fun _ => q_bipush (n := 96) (zd (i := .bipush (96)) (n := 2) (by decide +kernel)) rfl) <|
  bb_lift (fun _ => q_iald (k := 323) (zd (i := .iaload) (n := 1) (by decide +kernel)) (by decide +kernel) (by decide +kernel) h1) <|
  bb_iload_n (n := 3) (i := 3) (zd (i := .iload_n 3) (n := 1) (by decide +kernel)) rfl rfl <|
  bb_lift (fun _ => q_iadd (zd (i := .iadd) (n := 1) (by decide +kernel))) <|
  bb_callVI (idx := 352) (k := 292) (ci := 9) (N := n_X9_sees) (As := [.int a1, .int a2, .int ((I 323 (96 : Int32).toNatClampNeg) + a3)]) (st := []) (zd (i := .invokevirtual 352) (n := 3) (by decide +kernel)) to_X9_sees g1449 g1451 g68 (Nat.le_of_ble_eq_true rfl) (by decide +kernel) (by decide +kernel) (by decide +kernel) rfl rfl rfl hc kk
theorem w_X9_dawns_40 {Q : qQ} {I : qMI} {L : qML} {R : qMR} {a1 : Int32} {a2 : Int32} {a3 : Int32} {s0 : Int32} (kt : s0 = 0 → wkB l G (d + 1) n_X9_dawns Q 45 [.ref 292, .int a1, .int a2, .int a3] [] I L R) (kf : ¬ s0 = 0 → wkB l G (d + 1) n_X9_dawns Q 43 [.ref 292, .int a1, .int a2, .int a3] [] I L R) : wkB l G (d + 1) n_X9_dawns Q 40 [.ref 292, .int a1, .int a2, .int a3] [.int s0] I L R :=
  (fun lv hl => q_if_eq (off := 5) (tgt := 45) (zd (i := .ifCond .eq (5)) (n := 3) (by decide +kernel)) (by decide) (fun h => (kt h) lv hl) (fun h => (kf h) lv hl))
theorem w_X9_dawns_43 {Q : qQ} {I : qMI} {L : qML} {R : qMR} {a1 : Int32} {a2 : Int32} {a3 : Int32} (hQ : Q (some (.int a3)) 336 I L R) : wkB l G (d + 1) n_X9_dawns Q 43 [.ref 292, .int a1, .int a2, .int a3] [] I L R :=
  bb_iload_n (n := 3) (i := 3) (zd (i := .iload_n 3) (n := 1) (by decide +kernel)) rfl rfl <|
  (fun lv hl => q_iret (zd (i := .ireturn) (n := 1) (by decide +kernel)) rfl rfl (Nat.le_refl _) (Nat.le_refl _) hQ)
theorem w_X9_dawns_45 {Q : qQ} {I : qMI} {L : qML} {R : qMR} {a1 : Int32} {a2 : Int32} {a3 : Int32} (k : wkB l G (d + 1) n_X9_dawns Q 19 [.ref 292, .int a1, .int a2, .int (a3 + 1)] [] I L R) : wkB l G (d + 1) n_X9_dawns Q 45 [.ref 292, .int a1, .int a2, .int a3] [] I L R :=
  bb_iinc (i := 3) (n := 1) (zd (i := .iinc 3 (1)) (n := 3) (by decide +kernel)) rfl rfl (by decide +kernel) (wkNl_i rfl) <|
  bb_lift (fun _ => q_goto (off := -29) (tgt := 19) (zd (i := .goto (-29)) (n := 3) (by decide +kernel)) (by decide)) k
theorem w_X9_dawns_51 {Q : qQ} {I : qMI} {L : qML} {R : qMR} {a1 : Int32} {a2 : Int32} {a3 : Int32} (hQ : Q (some (.int (-2))) 336 I L R) : wkB l G (d + 1) n_X9_dawns Q 51 [.ref 292, .int a1, .int a2, .int a3] [] I L R :=
  bb_lift (fun _ => q_bipush (n := -2) (zd (i := .bipush (-2)) (n := 2) (by decide +kernel)) rfl) <|
  (fun lv hl => q_iret (zd (i := .ireturn) (n := 1) (by decide +kernel)) rfl rfl (Nat.le_refl _) (Nat.le_refl _) hQ)
theorem w_X9_hoursFrom_0 {Q : qQ} {I : qMI} {L : qML} {R : qMR} {a1 : Int32} {a2 : Int32} {a3 : Int32} (k : wkB l G (d + 1) n_X9_hoursFrom Q 6 [.ref 292, .int a1, .int a2, .int a3, .int 0, .int 0] [] I L R) : wkB l G (d + 1) n_X9_hoursFrom Q 0 [.ref 292, .int a1, .int a2, .int a3, wkU, wkU] [] I L R :=
  bb_lift (fun _ => q_iconst (n := 0) (zd (i := .iconst (0)) (n := 1) (by decide +kernel)) rfl) <|
  bb_istore (i := 4) (zd (i := .istore 4) (n := 2) (by decide +kernel)) (by decide +kernel) (wkNl_i rfl) <|
  bb_lift (fun _ => q_iconst (n := 0) (zd (i := .iconst (0)) (n := 1) (by decide +kernel)) rfl) <|
  bb_istore (i := 5) (zd (i := .istore 5) (n := 2) (by decide +kernel)) (by decide +kernel) (wkNl_i rfl) <|
  k
theorem w_X9_hoursFrom_6 {Q : qQ} {I : qMI} {L : qML} {R : qMR} {a1 : Int32} {a2 : Int32} {a3 : Int32} {a4 : Int32} {a5 : Int32} (kt : a3 ≤ a5 → wkB l G (d + 1) n_X9_hoursFrom Q 40 [.ref 292, .int a1, .int a2, .int a3, .int a4, .int a5] [] I L R) (kf : ¬ a3 ≤ a5 → wkB l G (d + 1) n_X9_hoursFrom Q 12 [.ref 292, .int a1, .int a2, .int a3, .int a4, .int a5] [] I L R) : wkB l G (d + 1) n_X9_hoursFrom Q 6 [.ref 292, .int a1, .int a2, .int a3, .int a4, .int a5] [] I L R :=
  bb_iload (i := 5) (zd (i := .iload 5) (n := 2) (by decide +kernel)) rfl <|
  bb_iload_n (n := 3) (i := 3) (zd (i := .iload_n 3) (n := 1) (by decide +kernel)) rfl rfl <|
  (fun lv hl => q_icmp_ge (off := 31) (tgt := 40) (zd (i := .if_icmp .ge (31)) (n := 3) (by decide +kernel)) (by decide) (fun h => (kt h) lv hl) (fun h => (kf h) lv hl))
theorem w_X9_hoursFrom_12 {Q : qQ} {I : qMI} {L : qML} {R : qMR} (hR : wkR R) {a1 : Int32} {a2 : Int32} {a3 : Int32} {a4 : Int32} {a5 : Int32} (h1 : vp_in 96 97) {P : Int32 → qMI → qML → Prop} (hc : wkI l G d n_X9_sees [.ref 292, .int a1, .int a2, .int ((I 323 (96 : Int32).toNatClampNeg) + a5)] I L R P) (kk : ∀ y I' L', P y I' L' → wkB l G (d + 1) n_X9_hoursFrom Q 28 [.ref 292, .int a1, .int a2, .int a3, .int a4, .int a5] [.int y] I' L' R) : wkB l G (d + 1) n_X9_hoursFrom Q 12 [.ref 292, .int a1, .int a2, .int a3, .int a4, .int a5] [] I L R :=
  bb_aload_n (n := 0) (i := 0) (zd (i := .aload_n 0) (n := 1) (by decide +kernel)) rfl rfl <|
  bb_iload_n (n := 1) (i := 1) (zd (i := .iload_n 1) (n := 1) (by decide +kernel)) rfl rfl <|
  bb_iload_n (n := 2) (i := 2) (zd (i := .iload_n 2) (n := 1) (by decide +kernel)) rfl rfl <|
  bb_aload_n (n := 0) (i := 0) (zd (i := .aload_n 0) (n := 1) (by decide +kernel)) rfl rfl <|
  bb_getr (k := 292) (ci := 9) (j := 48) (idx := 110) (a := 323) (zd (i := .getfield 110) (n := 3) (by decide +kernel)) (by decide +kernel) (by decide +kernel) (by decide +kernel) (by decide +kernel) rfl g1176 (hR 48 (by decide)) <|
  bb_lift (fun _ => q_bipush (n := 96) (zd (i := .bipush (96)) (n := 2) (by decide +kernel)) rfl) <|
  bb_lift (fun _ => q_iald (k := 323) (zd (i := .iaload) (n := 1) (by decide +kernel)) (by decide +kernel) (by decide +kernel) h1) <|
  bb_iload (i := 5) (zd (i := .iload 5) (n := 2) (by decide +kernel)) rfl <|
  bb_lift (fun _ => q_iadd (zd (i := .iadd) (n := 1) (by decide +kernel))) <|
  bb_callVI (idx := 352) (k := 292) (ci := 9) (N := n_X9_sees) (As := [.int a1, .int a2, .int ((I 323 (96 : Int32).toNatClampNeg) + a5)]) (st := []) (zd (i := .invokevirtual 352) (n := 3) (by decide +kernel)) to_X9_sees g1449 g1451 g68 (Nat.le_of_ble_eq_true rfl) (by decide +kernel) (by decide +kernel) (by decide +kernel) rfl rfl rfl hc kk
theorem w_X9_hoursFrom_28 {Q : qQ} {I : qMI} {L : qML} {R : qMR} {a1 : Int32} {a2 : Int32} {a3 : Int32} {a4 : Int32} {a5 : Int32} {s0 : Int32} (kt : s0 = 0 → wkB l G (d + 1) n_X9_hoursFrom Q 34 [.ref 292, .int a1, .int a2, .int a3, .int a4, .int a5] [] I L R) (kf : ¬ s0 = 0 → wkB l G (d + 1) n_X9_hoursFrom Q 31 [.ref 292, .int a1, .int a2, .int a3, .int a4, .int a5] [] I L R) : wkB l G (d + 1) n_X9_hoursFrom Q 28 [.ref 292, .int a1, .int a2, .int a3, .int a4, .int a5] [.int s0] I L R :=
  (fun lv hl => q_if_eq (off := 6) (tgt := 34) (zd (i := .ifCond .eq (6)) (n := 3) (by decide +kernel)) (by decide) (fun h => (kt h) lv hl) (fun h => (kf h) lv hl))
theorem w_X9_hoursFrom_31 {Q : qQ} {I : qMI} {L : qML} {R : qMR} {a1 : Int32} {a2 : Int32} {a3 : Int32} {a4 : Int32} {a5 : Int32} (k : wkB l G (d + 1) n_X9_hoursFrom Q 34 [.ref 292, .int a1, .int a2, .int a3, .int (a4 + 1), .int a5] [] I L R) : wkB l G (d + 1) n_X9_hoursFrom Q 31 [.ref 292, .int a1, .int a2, .int a3, .int a4, .int a5] [] I L R :=
  bb_iinc (i := 4) (n := 1) (zd (i := .iinc 4 (1)) (n := 3) (by decide +kernel)) rfl rfl (by decide +kernel) (wkNl_i rfl) <|
  k
theorem w_X9_hoursFrom_34 {Q : qQ} {I : qMI} {L : qML} {R : qMR} {a1 : Int32} {a2 : Int32} {a3 : Int32} {a4 : Int32} {a5 : Int32} (k : wkB l G (d + 1) n_X9_hoursFrom Q 6 [.ref 292, .int a1, .int a2, .int a3, .int a4, .int (a5 + 1)] [] I L R) : wkB l G (d + 1) n_X9_hoursFrom Q 34 [.ref 292, .int a1, .int a2, .int a3, .int a4, .int a5] [] I L R :=
  bb_iinc (i := 5) (n := 1) (zd (i := .iinc 5 (1)) (n := 3) (by decide +kernel)) rfl rfl (by decide +kernel) (wkNl_i rfl) <|
  bb_lift (fun _ => q_goto (off := -31) (tgt := 6) (zd (i := .goto (-31)) (n := 3) (by decide +kernel)) (by decide)) k
theorem w_X9_hoursFrom_40 {Q : qQ} {I : qMI} {L : qML} {R : qMR} {a1 : Int32} {a2 : Int32} {a3 : Int32} {a4 : Int32} {a5 : Int32} (hQ : Q (some (.int a4)) 336 I L R) : wkB l G (d + 1) n_X9_hoursFrom Q 40 [.ref 292, .int a1, .int a2, .int a3, .int a4, .int a5] [] I L R :=
  bb_iload (i := 4) (zd (i := .iload 4) (n := 2) (by decide +kernel)) rfl <|
  (fun lv hl => q_iret (zd (i := .ireturn) (n := 1) (by decide +kernel)) rfl rfl (Nat.le_refl _) (Nat.le_refl _) hQ)
theorem w_X9_longFrom_0 {Q : qQ} {I : qMI} {L : qML} {R : qMR} {a1 : Int32} {a2 : Int32} {a3 : Int32} {P : Int32 → qMI → qML → Prop} (hc : wkI l G d n_X9_isX [.int a1] I L R P) (kk : ∀ y I' L', P y I' L' → wkB l G (d + 1) n_X9_longFrom Q 4 [.ref 292, .int a1, .int a2, .int a3] [.int y] I' L' R) : wkB l G (d + 1) n_X9_longFrom Q 0 [.ref 292, .int a1, .int a2, .int a3] [] I L R :=
  bb_iload_n (n := 1) (i := 1) (zd (i := .iload_n 1) (n := 1) (by decide +kernel)) rfl rfl <|
  bb_callSI (idx := 387) (N := n_X9_isX) (As := [.int a1]) (st := []) (zd (i := .invokestatic 387) (n := 3) (by decide +kernel)) to_X9_isX g1507 g1508 (Nat.le_of_ble_eq_true rfl) rfl rfl hc kk
theorem w_X9_longFrom_4 {Q : qQ} {I : qMI} {L : qML} {R : qMR} {a1 : Int32} {a2 : Int32} {a3 : Int32} {s0 : Int32} (kt : s0 = 0 → wkB l G (d + 1) n_X9_longFrom Q 32 [.ref 292, .int a1, .int a2, .int a3] [] I L R) (kf : ¬ s0 = 0 → wkB l G (d + 1) n_X9_longFrom Q 7 [.ref 292, .int a1, .int a2, .int a3] [] I L R) : wkB l G (d + 1) n_X9_longFrom Q 4 [.ref 292, .int a1, .int a2, .int a3] [.int s0] I L R :=
  (fun lv hl => q_if_eq (off := 28) (tgt := 32) (zd (i := .ifCond .eq (28)) (n := 3) (by decide +kernel)) (by decide) (fun h => (kt h) lv hl) (fun h => (kf h) lv hl))
theorem w_X9_longFrom_7 {Q : qQ} {I : qMI} {L : qML} {R : qMR} {a1 : Int32} {a2 : Int32} {a3 : Int32} {P : Int32 → qMI → qML → Prop} (hc : wkI l G d n_X9_isThing [.ref 292, .int a2] I L R P) (kk : ∀ y I' L', P y I' L' → wkB l G (d + 1) n_X9_longFrom Q 12 [.ref 292, .int a1, .int a2, .int a3] [.int y] I' L' R) : wkB l G (d + 1) n_X9_longFrom Q 7 [.ref 292, .int a1, .int a2, .int a3] [] I L R :=
  bb_aload_n (n := 0) (i := 0) (zd (i := .aload_n 0) (n := 1) (by decide +kernel)) rfl rfl <|
  bb_iload_n (n := 2) (i := 2) (zd (i := .iload_n 2) (n := 1) (by decide +kernel)) rfl rfl <|
  bb_callVI (idx := 372) (k := 292) (ci := 9) (N := n_X9_isThing) (As := [.int a2]) (st := []) (zd (i := .invokevirtual 372) (n := 3) (by decide +kernel)) to_X9_isThing g1438 g1440 g66 (Nat.le_of_ble_eq_true rfl) (by decide +kernel) (by decide +kernel) (by decide +kernel) rfl rfl rfl hc kk
theorem w_X9_longFrom_12 {Q : qQ} {I : qMI} {L : qML} {R : qMR} {a1 : Int32} {a2 : Int32} {a3 : Int32} {s0 : Int32} (kt : s0 = 0 → wkB l G (d + 1) n_X9_longFrom Q 32 [.ref 292, .int a1, .int a2, .int a3] [] I L R) (kf : ¬ s0 = 0 → wkB l G (d + 1) n_X9_longFrom Q 15 [.ref 292, .int a1, .int a2, .int a3] [] I L R) : wkB l G (d + 1) n_X9_longFrom Q 12 [.ref 292, .int a1, .int a2, .int a3] [.int s0] I L R :=
  (fun lv hl => q_if_eq (off := 20) (tgt := 32) (zd (i := .ifCond .eq (20)) (n := 3) (by decide +kernel)) (by decide) (fun h => (kt h) lv hl) (fun h => (kf h) lv hl))
theorem w_X9_longFrom_15 {Q : qQ} {I : qMI} {L : qML} {R : qMR} {a1 : Int32} {a2 : Int32} {a3 : Int32} {P : Int32 → qMI → qML → Prop} (hc : wkI l G d n_X9_isSome [.int a3] I L R P) (kk : ∀ y I' L', P y I' L' → wkB l G (d + 1) n_X9_longFrom Q 19 [.ref 292, .int a1, .int a2, .int a3] [.int y] I' L' R) : wkB l G (d + 1) n_X9_longFrom Q 15 [.ref 292, .int a1, .int a2, .int a3] [] I L R :=
  bb_iload_n (n := 3) (i := 3) (zd (i := .iload_n 3) (n := 1) (by decide +kernel)) rfl rfl <|
  bb_callSI (idx := 406) (N := n_X9_isSome) (As := [.int a3]) (st := []) (zd (i := .invokestatic 406) (n := 3) (by decide +kernel)) to_X9_isSome g1598 g1599 (Nat.le_of_ble_eq_true rfl) rfl rfl hc kk
theorem w_X9_longFrom_19 {Q : qQ} {I : qMI} {L : qML} {R : qMR} {a1 : Int32} {a2 : Int32} {a3 : Int32} {s0 : Int32} (kt : s0 = 0 → wkB l G (d + 1) n_X9_longFrom Q 32 [.ref 292, .int a1, .int a2, .int a3] [] I L R) (kf : ¬ s0 = 0 → wkB l G (d + 1) n_X9_longFrom Q 22 [.ref 292, .int a1, .int a2, .int a3] [] I L R) : wkB l G (d + 1) n_X9_longFrom Q 19 [.ref 292, .int a1, .int a2, .int a3] [.int s0] I L R :=
  (fun lv hl => q_if_eq (off := 13) (tgt := 32) (zd (i := .ifCond .eq (13)) (n := 3) (by decide +kernel)) (by decide) (fun h => (kt h) lv hl) (fun h => (kf h) lv hl))
theorem w_X9_longFrom_22 {Q : qQ} {I : qMI} {L : qML} {R : qMR} {a1 : Int32} {a2 : Int32} {a3 : Int32} {P : Int32 → qMI → qML → Prop} (hc : wkI l G d n_X9_hoursFrom [.ref 292, .int a1, .int a2, .int a3] I L R P) (kk : ∀ y I' L', P y I' L' → wkB l G (d + 1) n_X9_longFrom Q 29 [.ref 292, .int a1, .int a2, .int a3] [.int y] I' L' R) : wkB l G (d + 1) n_X9_longFrom Q 22 [.ref 292, .int a1, .int a2, .int a3] [] I L R :=
  bb_aload_n (n := 0) (i := 0) (zd (i := .aload_n 0) (n := 1) (by decide +kernel)) rfl rfl <|
  bb_iload_n (n := 1) (i := 1) (zd (i := .iload_n 1) (n := 1) (by decide +kernel)) rfl rfl <|
  bb_iload_n (n := 2) (i := 2) (zd (i := .iload_n 2) (n := 1) (by decide +kernel)) rfl rfl <|
  bb_iload_n (n := 3) (i := 3) (zd (i := .iload_n 3) (n := 1) (by decide +kernel)) rfl rfl <|
  bb_callVI (idx := 409) (k := 292) (ci := 9) (N := n_X9_hoursFrom) (As := [.int a1, .int a2, .int a3]) (st := []) (zd (i := .invokevirtual 409) (n := 3) (by decide +kernel)) to_X9_hoursFrom g1601 g1603 g90 (Nat.le_of_ble_eq_true rfl) (by decide +kernel) (by decide +kernel) (by decide +kernel) rfl rfl rfl hc kk
theorem w_X9_longFrom_29 {Q : qQ} {I : qMI} {L : qML} {R : qMR} {a1 : Int32} {a2 : Int32} {a3 : Int32} {s0 : Int32} (k : wkB l G (d + 1) n_X9_longFrom Q 33 [.ref 292, .int a1, .int a2, .int a3] [.int s0] I L R) : wkB l G (d + 1) n_X9_longFrom Q 29 [.ref 292, .int a1, .int a2, .int a3] [.int s0] I L R :=
  bb_lift (fun _ => q_goto (off := 4) (tgt := 33) (zd (i := .goto (4)) (n := 3) (by decide +kernel)) (by decide)) k
theorem w_X9_longFrom_32 {Q : qQ} {I : qMI} {L : qML} {R : qMR} {a1 : Int32} {a2 : Int32} {a3 : Int32} (k : wkB l G (d + 1) n_X9_longFrom Q 33 [.ref 292, .int a1, .int a2, .int a3] [.int (-1)] I L R) : wkB l G (d + 1) n_X9_longFrom Q 32 [.ref 292, .int a1, .int a2, .int a3] [] I L R :=
  bb_lift (fun _ => q_iconst (n := -1) (zd (i := .iconst (-1)) (n := 1) (by decide +kernel)) rfl) <|
  k
theorem w_X9_longFrom_33 {Q : qQ} {I : qMI} {L : qML} {R : qMR} {a1 : Int32} {a2 : Int32} {a3 : Int32} {s0 : Int32} (hQ : Q (some (.int s0)) 336 I L R) : wkB l G (d + 1) n_X9_longFrom Q 33 [.ref 292, .int a1, .int a2, .int a3] [.int s0] I L R :=
  (fun lv hl => q_iret (zd (i := .ireturn) (n := 1) (by decide +kernel)) rfl rfl (Nat.le_refl _) (Nat.le_refl _) hQ)
theorem w_X9_best_0 {Q : qQ} {I : qMI} {L : qML} {R : qMR} {a1 : Int32} {a2 : Int32} {a3 : Int32} {P : Int32 → qMI → qML → Prop} (hc : wkI l G d n_X9_isThing [.ref 292, .int a1] I L R P) (kk : ∀ y I' L', P y I' L' → wkB l G (d + 1) n_X9_best Q 5 [.ref 292, .int a1, .int a2, .int a3, wkU, wkU, wkU, wkU] [.int y] I' L' R) : wkB l G (d + 1) n_X9_best Q 0 [.ref 292, .int a1, .int a2, .int a3, wkU, wkU, wkU, wkU] [] I L R :=
  bb_aload_n (n := 0) (i := 0) (zd (i := .aload_n 0) (n := 1) (by decide +kernel)) rfl rfl <|
  bb_iload_n (n := 1) (i := 1) (zd (i := .iload_n 1) (n := 1) (by decide +kernel)) rfl rfl <|
  bb_callVI (idx := 372) (k := 292) (ci := 9) (N := n_X9_isThing) (As := [.int a1]) (st := []) (zd (i := .invokevirtual 372) (n := 3) (by decide +kernel)) to_X9_isThing g1438 g1440 g66 (Nat.le_of_ble_eq_true rfl) (by decide +kernel) (by decide +kernel) (by decide +kernel) rfl rfl rfl hc kk
theorem w_X9_best_5 {Q : qQ} {I : qMI} {L : qML} {R : qMR} {a1 : Int32} {a2 : Int32} {a3 : Int32} {s0 : Int32} (kt : s0 = 0 → wkB l G (d + 1) n_X9_best Q 24 [.ref 292, .int a1, .int a2, .int a3, wkU, wkU, wkU, wkU] [] I L R) (kf : ¬ s0 = 0 → wkB l G (d + 1) n_X9_best Q 8 [.ref 292, .int a1, .int a2, .int a3, wkU, wkU, wkU, wkU] [] I L R) : wkB l G (d + 1) n_X9_best Q 5 [.ref 292, .int a1, .int a2, .int a3, wkU, wkU, wkU, wkU] [.int s0] I L R :=
  (fun lv hl => q_if_eq (off := 19) (tgt := 24) (zd (i := .ifCond .eq (19)) (n := 3) (by decide +kernel)) (by decide) (fun h => (kt h) lv hl) (fun h => (kf h) lv hl))
theorem w_X9_best_8 {Q : qQ} {I : qMI} {L : qML} {R : qMR} {a1 : Int32} {a2 : Int32} {a3 : Int32} {P : Int32 → qMI → qML → Prop} (hc : wkI l G d n_X9_isSome [.int a2] I L R P) (kk : ∀ y I' L', P y I' L' → wkB l G (d + 1) n_X9_best Q 12 [.ref 292, .int a1, .int a2, .int a3, wkU, wkU, wkU, wkU] [.int y] I' L' R) : wkB l G (d + 1) n_X9_best Q 8 [.ref 292, .int a1, .int a2, .int a3, wkU, wkU, wkU, wkU] [] I L R :=
  bb_iload_n (n := 2) (i := 2) (zd (i := .iload_n 2) (n := 1) (by decide +kernel)) rfl rfl <|
  bb_callSI (idx := 406) (N := n_X9_isSome) (As := [.int a2]) (st := []) (zd (i := .invokestatic 406) (n := 3) (by decide +kernel)) to_X9_isSome g1598 g1599 (Nat.le_of_ble_eq_true rfl) rfl rfl hc kk
theorem w_X9_best_12 {Q : qQ} {I : qMI} {L : qML} {R : qMR} {a1 : Int32} {a2 : Int32} {a3 : Int32} {s0 : Int32} (kt : s0 = 0 → wkB l G (d + 1) n_X9_best Q 24 [.ref 292, .int a1, .int a2, .int a3, wkU, wkU, wkU, wkU] [] I L R) (kf : ¬ s0 = 0 → wkB l G (d + 1) n_X9_best Q 15 [.ref 292, .int a1, .int a2, .int a3, wkU, wkU, wkU, wkU] [] I L R) : wkB l G (d + 1) n_X9_best Q 12 [.ref 292, .int a1, .int a2, .int a3, wkU, wkU, wkU, wkU] [.int s0] I L R :=
  (fun lv hl => q_if_eq (off := 12) (tgt := 24) (zd (i := .ifCond .eq (12)) (n := 3) (by decide +kernel)) (by decide) (fun h => (kt h) lv hl) (fun h => (kf h) lv hl))
theorem w_X9_best_15 {Q : qQ} {I : qMI} {L : qML} {R : qMR} {a1 : Int32} {a2 : Int32} {a3 : Int32} {P : Int32 → qMI → qML → Prop} (hc : wkI l G d n_X9_in [.int a3, .int 0, .int 1] I L R P) (kk : ∀ y I' L', P y I' L' → wkB l G (d + 1) n_X9_best Q 21 [.ref 292, .int a1, .int a2, .int a3, wkU, wkU, wkU, wkU] [.int y] I' L' R) : wkB l G (d + 1) n_X9_best Q 15 [.ref 292, .int a1, .int a2, .int a3, wkU, wkU, wkU, wkU] [] I L R :=
  bb_iload_n (n := 3) (i := 3) (zd (i := .iload_n 3) (n := 1) (by decide +kernel)) rfl rfl <|
  bb_lift (fun _ => q_iconst (n := 0) (zd (i := .iconst (0)) (n := 1) (by decide +kernel)) rfl) <|
  bb_lift (fun _ => q_iconst (n := 1) (zd (i := .iconst (1)) (n := 1) (by decide +kernel)) rfl) <|
  bb_callSI (idx := 304) (N := n_X9_in) (As := [.int a3, .int 0, .int 1]) (st := []) (zd (i := .invokestatic 304) (n := 3) (by decide +kernel)) to_X9_in g1442 g1443 (Nat.le_of_ble_eq_true rfl) rfl rfl hc kk
theorem w_X9_best_21 {Q : qQ} {I : qMI} {L : qML} {R : qMR} {a1 : Int32} {a2 : Int32} {a3 : Int32} {s0 : Int32} (kt : ¬ s0 = 0 → wkB l G (d + 1) n_X9_best Q 26 [.ref 292, .int a1, .int a2, .int a3, wkU, wkU, wkU, wkU] [] I L R) (kf : s0 = 0 → wkB l G (d + 1) n_X9_best Q 24 [.ref 292, .int a1, .int a2, .int a3, wkU, wkU, wkU, wkU] [] I L R) : wkB l G (d + 1) n_X9_best Q 21 [.ref 292, .int a1, .int a2, .int a3, wkU, wkU, wkU, wkU] [.int s0] I L R :=
  (fun lv hl => q_if_ne (off := 5) (tgt := 26) (zd (i := .ifCond .ne (5)) (n := 3) (by decide +kernel)) (by decide) (fun h => (kt h) lv hl) (fun h => (kf h) lv hl))
theorem w_X9_best_24 {Q : qQ} {I : qMI} {L : qML} {R : qMR} {a1 : Int32} {a2 : Int32} {a3 : Int32} (hQ : Q (some (.int (-1))) 336 I L R) : wkB l G (d + 1) n_X9_best Q 24 [.ref 292, .int a1, .int a2, .int a3, wkU, wkU, wkU, wkU] [] I L R :=
  bb_lift (fun _ => q_iconst (n := -1) (zd (i := .iconst (-1)) (n := 1) (by decide +kernel)) rfl) <|
  (fun lv hl => q_iret (zd (i := .ireturn) (n := 1) (by decide +kernel)) rfl rfl (Nat.le_refl _) (Nat.le_refl _) hQ)
theorem w_X9_best_26 {Q : qQ} {I : qMI} {L : qML} {R : qMR} {a1 : Int32} {a2 : Int32} {a3 : Int32} (k : wkB l G (d + 1) n_X9_best Q 35 [.ref 292, .int a1, .int a2, .int a3, .int 0, .int (-1), .int 0, wkU] [] I L R) : wkB l G (d + 1) n_X9_best Q 26 [.ref 292, .int a1, .int a2, .int a3, wkU, wkU, wkU, wkU] [] I L R :=
  bb_lift (fun _ => q_iconst (n := 0) (zd (i := .iconst (0)) (n := 1) (by decide +kernel)) rfl) <|
  bb_istore (i := 4) (zd (i := .istore 4) (n := 2) (by decide +kernel)) (by decide +kernel) (wkNl_i rfl) <|
  bb_lift (fun _ => q_iconst (n := -1) (zd (i := .iconst (-1)) (n := 1) (by decide +kernel)) rfl) <|
  bb_istore (i := 5) (zd (i := .istore 5) (n := 2) (by decide +kernel)) (by decide +kernel) (wkNl_i rfl) <|
  bb_lift (fun _ => q_iconst (n := 0) (zd (i := .iconst (0)) (n := 1) (by decide +kernel)) rfl) <|
  bb_istore (i := 6) (zd (i := .istore 6) (n := 2) (by decide +kernel)) (by decide +kernel) (wkNl_i rfl) <|
  k
theorem w_X9_best_35 {Q : qQ} {I : qMI} {L : qML} {R : qMR} {a1 : Int32} {a2 : Int32} {a3 : Int32} {a4 : Int32} {a5 : Int32} {a6 : Int32} (kt : 19 < a6 → wkB l G (d + 1) n_X9_best Q 76 [.ref 292, .int a1, .int a2, .int a3, .int a4, .int a5, .int a6, wkU] [] I L R) (kf : ¬ 19 < a6 → wkB l G (d + 1) n_X9_best Q 42 [.ref 292, .int a1, .int a2, .int a3, .int a4, .int a5, .int a6, wkU] [] I L R) : wkB l G (d + 1) n_X9_best Q 35 [.ref 292, .int a1, .int a2, .int a3, .int a4, .int a5, .int a6, wkU] [] I L R :=
  bb_iload (i := 6) (zd (i := .iload 6) (n := 2) (by decide +kernel)) rfl <|
  bb_lift (fun _ => q_bipush (n := 19) (zd (i := .bipush (19)) (n := 2) (by decide +kernel)) rfl) <|
  (fun lv hl => q_icmp_gt (off := 37) (tgt := 76) (zd (i := .if_icmp .gt (37)) (n := 3) (by decide +kernel)) (by decide) (fun h => (kt h) lv hl) (fun h => (kf h) lv hl))
theorem w_X9_best_42 {Q : qQ} {I : qMI} {L : qML} {R : qMR} {a1 : Int32} {a2 : Int32} {a3 : Int32} {a4 : Int32} {a5 : Int32} {a6 : Int32} {P : Int32 → qMI → qML → Prop} (hc : wkI l G d n_X9_hoursFrom [.ref 292, .int a6, .int a1, .int a2] I L R P) (kk : ∀ y I' L', P y I' L' → wkB l G (d + 1) n_X9_best Q 50 [.ref 292, .int a1, .int a2, .int a3, .int a4, .int a5, .int a6, wkU] [.int y] I' L' R) : wkB l G (d + 1) n_X9_best Q 42 [.ref 292, .int a1, .int a2, .int a3, .int a4, .int a5, .int a6, wkU] [] I L R :=
  bb_aload_n (n := 0) (i := 0) (zd (i := .aload_n 0) (n := 1) (by decide +kernel)) rfl rfl <|
  bb_iload (i := 6) (zd (i := .iload 6) (n := 2) (by decide +kernel)) rfl <|
  bb_iload_n (n := 1) (i := 1) (zd (i := .iload_n 1) (n := 1) (by decide +kernel)) rfl rfl <|
  bb_iload_n (n := 2) (i := 2) (zd (i := .iload_n 2) (n := 1) (by decide +kernel)) rfl rfl <|
  bb_callVI (idx := 409) (k := 292) (ci := 9) (N := n_X9_hoursFrom) (As := [.int a6, .int a1, .int a2]) (st := []) (zd (i := .invokevirtual 409) (n := 3) (by decide +kernel)) to_X9_hoursFrom g1601 g1603 g90 (Nat.le_of_ble_eq_true rfl) (by decide +kernel) (by decide +kernel) (by decide +kernel) rfl rfl rfl hc kk
theorem w_X9_best_50 {Q : qQ} {I : qMI} {L : qML} {R : qMR} {a1 : Int32} {a2 : Int32} {a3 : Int32} {a4 : Int32} {a5 : Int32} {a6 : Int32} {s0 : Int32} (kt : a5 < s0 → wkB l G (d + 1) n_X9_best Q 62 [.ref 292, .int a1, .int a2, .int a3, .int a4, .int a5, .int a6, .int s0] [] I L R) (kf : ¬ a5 < s0 → wkB l G (d + 1) n_X9_best Q 59 [.ref 292, .int a1, .int a2, .int a3, .int a4, .int a5, .int a6, .int s0] [] I L R) : wkB l G (d + 1) n_X9_best Q 50 [.ref 292, .int a1, .int a2, .int a3, .int a4, .int a5, .int a6, wkU] [.int s0] I L R :=
  bb_istore (i := 7) (zd (i := .istore 7) (n := 2) (by decide +kernel)) (by decide +kernel) (wkNl_i rfl) <|
  bb_iload (i := 7) (zd (i := .iload 7) (n := 2) (by decide +kernel)) rfl <|
  bb_iload (i := 5) (zd (i := .iload 5) (n := 2) (by decide +kernel)) rfl <|
  (fun lv hl => q_icmp_gt (off := 6) (tgt := 62) (zd (i := .if_icmp .gt (6)) (n := 3) (by decide +kernel)) (by decide) (fun h => (kt h) lv hl) (fun h => (kf h) lv hl))
theorem w_X9_best_59 {Q : qQ} {I : qMI} {L : qML} {R : qMR} {a1 : Int32} {a2 : Int32} {a3 : Int32} {a4 : Int32} {a5 : Int32} {a6 : Int32} {a7 : Int32} (k : wkB l G (d + 1) n_X9_best Q 70 [.ref 292, .int a1, .int a2, .int a3, .int a4, .int a5, .int a6, .int a7] [] I L R) : wkB l G (d + 1) n_X9_best Q 59 [.ref 292, .int a1, .int a2, .int a3, .int a4, .int a5, .int a6, .int a7] [] I L R :=
  bb_lift (fun _ => q_goto (off := 11) (tgt := 70) (zd (i := .goto (11)) (n := 3) (by decide +kernel)) (by decide)) k
theorem w_X9_best_62 {Q : qQ} {I : qMI} {L : qML} {R : qMR} {a1 : Int32} {a2 : Int32} {a3 : Int32} {a4 : Int32} {a5 : Int32} {a6 : Int32} {a7 : Int32} (k : wkB l G (d + 1) n_X9_best Q 70 [.ref 292, .int a1, .int a2, .int a3, .int a6, .int a7, .int a6, .int a7] [] I L R) : wkB l G (d + 1) n_X9_best Q 62 [.ref 292, .int a1, .int a2, .int a3, .int a4, .int a5, .int a6, .int a7] [] I L R :=
  bb_iload (i := 6) (zd (i := .iload 6) (n := 2) (by decide +kernel)) rfl <|
  bb_istore (i := 4) (zd (i := .istore 4) (n := 2) (by decide +kernel)) (by decide +kernel) (wkNl_i rfl) <|
  bb_iload (i := 7) (zd (i := .iload 7) (n := 2) (by decide +kernel)) rfl <|
  bb_istore (i := 5) (zd (i := .istore 5) (n := 2) (by decide +kernel)) (by decide +kernel) (wkNl_i rfl) <|
  k
theorem w_X9_best_70 {Q : qQ} {I : qMI} {L : qML} {R : qMR} {a1 : Int32} {a2 : Int32} {a3 : Int32} {a4 : Int32} {a5 : Int32} {a6 : Int32} {a7 : Int32} (k : wkB l G (d + 1) n_X9_best Q 35 [.ref 292, .int a1, .int a2, .int a3, .int a4, .int a5, .int (a6 + 1), wkU] [] I L R) : wkB l G (d + 1) n_X9_best Q 70 [.ref 292, .int a1, .int a2, .int a3, .int a4, .int a5, .int a6, .int a7] [] I L R :=
  bb_iinc (i := 6) (n := 1) (zd (i := .iinc 6 (1)) (n := 3) (by decide +kernel)) rfl rfl (by decide +kernel) (wkNl_i rfl) <|
  bb_lift (fun _ => q_goto (off := -38) (tgt := 35) (zd (i := .goto (-38)) (n := 3) (by decide +kernel)) (by decide)) (wkB_le (vs := [.ref 292, .int a1, .int a2, .int a3, .int a4, .int a5, .int (a6 + 1), wkU]) (ws := [.ref 292, .int a1, .int a2, .int a3, .int a4, .int a5, .int (a6 + 1), .int a7]) ⟨Or.inr rfl, Or.inr rfl, Or.inr rfl, Or.inr rfl, Or.inr rfl, Or.inr rfl, Or.inr rfl, Or.inl rfl, trivial⟩ (k))
theorem w_X9_best_76 {Q : qQ} {I : qMI} {L : qML} {R : qMR} {a1 : Int32} {a2 : Int32} {a3 : Int32} {a4 : Int32} {a5 : Int32} {a6 : Int32} (kt : ¬ a3 = 0 → wkB l G (d + 1) n_X9_best Q 85 [.ref 292, .int a1, .int a2, .int a3, .int a4, .int a5, .int a6, wkU] [] I L R) (kf : a3 = 0 → wkB l G (d + 1) n_X9_best Q 80 [.ref 292, .int a1, .int a2, .int a3, .int a4, .int a5, .int a6, wkU] [] I L R) : wkB l G (d + 1) n_X9_best Q 76 [.ref 292, .int a1, .int a2, .int a3, .int a4, .int a5, .int a6, wkU] [] I L R :=
  bb_iload_n (n := 3) (i := 3) (zd (i := .iload_n 3) (n := 1) (by decide +kernel)) rfl rfl <|
  (fun lv hl => q_if_ne (off := 8) (tgt := 85) (zd (i := .ifCond .ne (8)) (n := 3) (by decide +kernel)) (by decide) (fun h => (kt h) lv hl) (fun h => (kf h) lv hl))
theorem w_X9_best_80 {Q : qQ} {I : qMI} {L : qML} {R : qMR} {a1 : Int32} {a2 : Int32} {a3 : Int32} {a4 : Int32} {a5 : Int32} {a6 : Int32} (k : wkB l G (d + 1) n_X9_best Q 87 [.ref 292, .int a1, .int a2, .int a3, .int a4, .int a5, .int a6, wkU] [.int a4] I L R) : wkB l G (d + 1) n_X9_best Q 80 [.ref 292, .int a1, .int a2, .int a3, .int a4, .int a5, .int a6, wkU] [] I L R :=
  bb_iload (i := 4) (zd (i := .iload 4) (n := 2) (by decide +kernel)) rfl <|
  bb_lift (fun _ => q_goto (off := 5) (tgt := 87) (zd (i := .goto (5)) (n := 3) (by decide +kernel)) (by decide)) k
theorem w_X9_best_85 {Q : qQ} {I : qMI} {L : qML} {R : qMR} {a1 : Int32} {a2 : Int32} {a3 : Int32} {a4 : Int32} {a5 : Int32} {a6 : Int32} (k : wkB l G (d + 1) n_X9_best Q 87 [.ref 292, .int a1, .int a2, .int a3, .int a4, .int a5, .int a6, wkU] [.int a5] I L R) : wkB l G (d + 1) n_X9_best Q 85 [.ref 292, .int a1, .int a2, .int a3, .int a4, .int a5, .int a6, wkU] [] I L R :=
  bb_iload (i := 5) (zd (i := .iload 5) (n := 2) (by decide +kernel)) rfl <|
  k
theorem w_X9_best_87 {Q : qQ} {I : qMI} {L : qML} {R : qMR} {a1 : Int32} {a2 : Int32} {a3 : Int32} {a4 : Int32} {a5 : Int32} {a6 : Int32} {s0 : Int32} (hQ : Q (some (.int s0)) 336 I L R) : wkB l G (d + 1) n_X9_best Q 87 [.ref 292, .int a1, .int a2, .int a3, .int a4, .int a5, .int a6, wkU] [.int s0] I L R :=
  (fun lv hl => q_iret (zd (i := .ireturn) (n := 1) (by decide +kernel)) rfl rfl (Nat.le_refl _) (Nat.le_refl _) hQ)
theorem w_X9_cool_0 {Q : qQ} {I : qMI} {L : qML} {R : qMR}  (k : wkB l G (d + 1) n_X9_cool Q 2 [.ref 292, .int 0, wkU, wkU, wkU] [] I L R) : wkB l G (d + 1) n_X9_cool Q 0 [.ref 292, wkU, wkU, wkU, wkU] [] I L R :=
  bb_lift (fun _ => q_iconst (n := 0) (zd (i := .iconst (0)) (n := 1) (by decide +kernel)) rfl) <|
  bb_istore_n (n := 1) (i := 1) (zd (i := .istore_n 1) (n := 1) (by decide +kernel)) rfl (by decide +kernel) (wkNl_r rfl) <|
  k
theorem w_X9_cool_2 {Q : qQ} {I : qMI} {L : qML} {R : qMR} {a1 : Int32} (kt : 48 < a1 → wkB l G (d + 1) n_X9_cool Q 92 [.ref 292, .int a1, wkU, wkU, wkU] [] I L R) (kf : ¬ 48 < a1 → wkB l G (d + 1) n_X9_cool Q 8 [.ref 292, .int a1, wkU, wkU, wkU] [] I L R) : wkB l G (d + 1) n_X9_cool Q 2 [.ref 292, .int a1, wkU, wkU, wkU] [] I L R :=
  bb_iload_n (n := 1) (i := 1) (zd (i := .iload_n 1) (n := 1) (by decide +kernel)) rfl rfl <|
  bb_lift (fun _ => q_bipush (n := 48) (zd (i := .bipush (48)) (n := 2) (by decide +kernel)) rfl) <|
  (fun lv hl => q_icmp_gt (off := 87) (tgt := 92) (zd (i := .if_icmp .gt (87)) (n := 3) (by decide +kernel)) (by decide) (fun h => (kt h) lv hl) (fun h => (kf h) lv hl))
theorem w_X9_cool_8 {Q : qQ} {I : qMI} {L : qML} {R : qMR} {a1 : Int32} (k : wkB l G (d + 1) n_X9_cool Q 12 [.ref 292, .int a1, .int 0, .int 0, wkU] [] I L R) : wkB l G (d + 1) n_X9_cool Q 8 [.ref 292, .int a1, wkU, wkU, wkU] [] I L R :=
  bb_lift (fun _ => q_iconst (n := 0) (zd (i := .iconst (0)) (n := 1) (by decide +kernel)) rfl) <|
  bb_istore_n (n := 2) (i := 2) (zd (i := .istore_n 2) (n := 1) (by decide +kernel)) rfl (by decide +kernel) (wkNl_i rfl) <|
  bb_lift (fun _ => q_iconst (n := 0) (zd (i := .iconst (0)) (n := 1) (by decide +kernel)) rfl) <|
  bb_istore_n (n := 3) (i := 3) (zd (i := .istore_n 3) (n := 1) (by decide +kernel)) rfl (by decide +kernel) (wkNl_i rfl) <|
  k
theorem w_X9_cool_12 {Q : qQ} {I : qMI} {L : qML} {R : qMR} (hR : wkR R) {a1 : Int32} {a2 : Int32} {a3 : Int32} (h1 : vp_in (I 292 18) 2) (kt : (I 304 (I 292 18).toNatClampNeg) ≤ a3 → wkB l G (d + 1) n_X9_cool Q 80 [.ref 292, .int a1, .int a2, .int a3, wkU] [] I L R) (kf : ¬ (I 304 (I 292 18).toNatClampNeg) ≤ a3 → wkB l G (d + 1) n_X9_cool Q 25 [.ref 292, .int a1, .int a2, .int a3, wkU] [] I L R) : wkB l G (d + 1) n_X9_cool Q 12 [.ref 292, .int a1, .int a2, .int a3, wkU] [] I L R :=
  bb_iload_n (n := 3) (i := 3) (zd (i := .iload_n 3) (n := 1) (by decide +kernel)) rfl rfl <|
  bb_aload_n (n := 0) (i := 0) (zd (i := .aload_n 0) (n := 1) (by decide +kernel)) rfl rfl <|
  bb_getr (k := 292) (ci := 9) (j := 25) (idx := 52) (a := 304) (zd (i := .getfield 52) (n := 3) (by decide +kernel)) (by decide +kernel) (by decide +kernel) (by decide +kernel) (by decide +kernel) rfl g1153 (hR 25 (by decide)) <|
  bb_aload_n (n := 0) (i := 0) (zd (i := .aload_n 0) (n := 1) (by decide +kernel)) rfl rfl <|
  bb_geti (k := 292) (ci := 9) (j := 18) (idx := 230) (zd (i := .getfield 230) (n := 3) (by decide +kernel)) (by decide +kernel) (by decide +kernel) (by decide +kernel) (by decide +kernel) rfl g1146 <|
  bb_lift (fun _ => q_iald (k := 304) (zd (i := .iaload) (n := 1) (by decide +kernel)) (by decide +kernel) (by decide +kernel) h1) <|
  (fun lv hl => q_icmp_ge (off := 58) (tgt := 80) (zd (i := .if_icmp .ge (58)) (n := 3) (by decide +kernel)) (by decide) (fun h => (kt h) lv hl) (fun h => (kf h) lv hl))
theorem w_X9_cool_25 {Q : qQ} {I : qMI} {L : qML} {R : qMR} {a1 : Int32} {a2 : Int32} {a3 : Int32} (k : wkB l G (d + 1) n_X9_cool Q 28 [.ref 292, .int a1, .int a2, .int a3, .int 0] [] I L R) : wkB l G (d + 1) n_X9_cool Q 25 [.ref 292, .int a1, .int a2, .int a3, wkU] [] I L R :=
  bb_lift (fun _ => q_iconst (n := 0) (zd (i := .iconst (0)) (n := 1) (by decide +kernel)) rfl) <|
  bb_istore (i := 4) (zd (i := .istore 4) (n := 2) (by decide +kernel)) (by decide +kernel) (wkNl_i rfl) <|
  k
theorem w_X9_cool_28 {Q : qQ} {I : qMI} {L : qML} {R : qMR} (hR : wkR R) {a1 : Int32} {a2 : Int32} {a3 : Int32} {a4 : Int32} (h1 : vp_in (I 292 18) 2) (kt : (I 301 (I 292 18).toNatClampNeg) ≤ a4 → wkB l G (d + 1) n_X9_cool Q 74 [.ref 292, .int a1, .int a2, .int a3, .int a4] [] I L R) (kf : ¬ (I 301 (I 292 18).toNatClampNeg) ≤ a4 → wkB l G (d + 1) n_X9_cool Q 42 [.ref 292, .int a1, .int a2, .int a3, .int a4] [] I L R) : wkB l G (d + 1) n_X9_cool Q 28 [.ref 292, .int a1, .int a2, .int a3, .int a4] [] I L R :=
  bb_iload (i := 4) (zd (i := .iload 4) (n := 2) (by decide +kernel)) rfl <|
  bb_aload_n (n := 0) (i := 0) (zd (i := .aload_n 0) (n := 1) (by decide +kernel)) rfl rfl <|
  bb_getr (k := 292) (ci := 9) (j := 22) (idx := 43) (a := 301) (zd (i := .getfield 43) (n := 3) (by decide +kernel)) (by decide +kernel) (by decide +kernel) (by decide +kernel) (by decide +kernel) rfl g1150 (hR 22 (by decide)) <|
  bb_aload_n (n := 0) (i := 0) (zd (i := .aload_n 0) (n := 1) (by decide +kernel)) rfl rfl <|
  bb_geti (k := 292) (ci := 9) (j := 18) (idx := 230) (zd (i := .getfield 230) (n := 3) (by decide +kernel)) (by decide +kernel) (by decide +kernel) (by decide +kernel) (by decide +kernel) rfl g1146 <|
  bb_lift (fun _ => q_iald (k := 301) (zd (i := .iaload) (n := 1) (by decide +kernel)) (by decide +kernel) (by decide +kernel) h1) <|
  (fun lv hl => q_icmp_ge (off := 35) (tgt := 74) (zd (i := .if_icmp .ge (35)) (n := 3) (by decide +kernel)) (by decide) (fun h => (kt h) lv hl) (fun h => (kf h) lv hl))
theorem w_X9_cool_42 {Q : qQ} {I : qMI} {L : qML} {R : qMR} (hR : wkR R) {a1 : Int32} {a2 : Int32} {a3 : Int32} {a4 : Int32} (h1 : vp_in a3 97) (h2 : vp_in 96 97) {P : Int32 → qMI → qML → Prop} (hc : wkI l G d n_X9_sees [.ref 292, .int (I 323 a3.toNatClampNeg), .int a4, .int ((I 323 (96 : Int32).toNatClampNeg) + a1)] I L R P) (kk : ∀ y I' L', P y I' L' → wkB l G (d + 1) n_X9_cool Q 63 [.ref 292, .int a1, .int a2, .int a3, .int a4] [.int y] I' L' R) : wkB l G (d + 1) n_X9_cool Q 42 [.ref 292, .int a1, .int a2, .int a3, .int a4] [] I L R :=
  bb_aload_n (n := 0) (i := 0) (zd (i := .aload_n 0) (n := 1) (by decide +kernel)) rfl rfl <|
  bb_aload_n (n := 0) (i := 0) (zd (i := .aload_n 0) (n := 1) (by decide +kernel)) rfl rfl <|
  bb_getr (k := 292) (ci := 9) (j := 48) (idx := 110) (a := 323) (zd (i := .getfield 110) (n := 3) (by decide +kernel)) (by decide +kernel) (by decide +kernel) (by decide +kernel) (by decide +kernel) rfl g1176 (hR 48 (by decide)) <|
  bb_iload_n (n := 3) (i := 3) (zd (i := .iload_n 3) (n := 1) (by decide +kernel)) rfl rfl <|
  bb_lift (fun _ => q_iald (k := 323) (zd (i := .iaload) (n := 1) (by decide +kernel)) (by decide +kernel) (by decide +kernel) h1) <|
  bb_iload (i := 4) (zd (i := .iload 4) (n := 2) (by decide +kernel)) rfl <|
  bb_aload_n (n := 0) (i := 0) (zd (i := .aload_n 0) (n := 1) (by decide +kernel)) rfl rfl <|
  bb_getr (k := 292) (ci := 9) (j := 48) (idx := 110) (a := 323) (zd (i := .getfield 110) (n := 3) (by decide +kernel)) (by decide +kernel) (by decide +kernel) (by decide +kernel) (by decide +kernel) rfl g1176 (hR 48 (by decide)) <|
  bb_lift (fun _ => q_bipush (n := 96) (zd (i := .bipush (96)) (n := 2) (by decide +kernel)) rfl) <|
  bb_lift (fun _ => q_iald (k := 323) (zd (i := .iaload) (n := 1) (by decide +kernel)) (by decide +kernel) (by decide +kernel) h2) <|
  bb_iload_n (n := 1) (i := 1) (zd (i := .iload_n 1) (n := 1) (by decide +kernel)) rfl rfl <|
  bb_lift (fun _ => q_iadd (zd (i := .iadd) (n := 1) (by decide +kernel))) <|
  bb_callVI (idx := 352) (k := 292) (ci := 9) (N := n_X9_sees) (As := [.int (I 323 a3.toNatClampNeg), .int a4, .int ((I 323 (96 : Int32).toNatClampNeg) + a1)]) (st := []) (zd (i := .invokevirtual 352) (n := 3) (by decide +kernel)) to_X9_sees g1449 g1451 g68 (Nat.le_of_ble_eq_true rfl) (by decide +kernel) (by decide +kernel) (by decide +kernel) rfl rfl rfl hc kk
theorem w_X9_cool_63 {Q : qQ} {I : qMI} {L : qML} {R : qMR} {a1 : Int32} {a2 : Int32} {a3 : Int32} {a4 : Int32} {s0 : Int32} (kt : s0 = 0 → wkB l G (d + 1) n_X9_cool Q 68 [.ref 292, .int a1, .int a2, .int a3, .int a4] [] I L R) (kf : ¬ s0 = 0 → wkB l G (d + 1) n_X9_cool Q 66 [.ref 292, .int a1, .int a2, .int a3, .int a4] [] I L R) : wkB l G (d + 1) n_X9_cool Q 63 [.ref 292, .int a1, .int a2, .int a3, .int a4] [.int s0] I L R :=
  (fun lv hl => q_if_eq (off := 5) (tgt := 68) (zd (i := .ifCond .eq (5)) (n := 3) (by decide +kernel)) (by decide) (fun h => (kt h) lv hl) (fun h => (kf h) lv hl))
theorem w_X9_cool_66 {Q : qQ} {I : qMI} {L : qML} {R : qMR} {a1 : Int32} {a2 : Int32} {a3 : Int32} {a4 : Int32} (k : wkB l G (d + 1) n_X9_cool Q 68 [.ref 292, .int a1, .int 1, .int a3, .int a4] [] I L R) : wkB l G (d + 1) n_X9_cool Q 66 [.ref 292, .int a1, .int a2, .int a3, .int a4] [] I L R :=
  bb_lift (fun _ => q_iconst (n := 1) (zd (i := .iconst (1)) (n := 1) (by decide +kernel)) rfl) <|
  bb_istore_n (n := 2) (i := 2) (zd (i := .istore_n 2) (n := 1) (by decide +kernel)) rfl (by decide +kernel) (wkNl_i rfl) <|
  k
theorem w_X9_cool_68 {Q : qQ} {I : qMI} {L : qML} {R : qMR} {a1 : Int32} {a2 : Int32} {a3 : Int32} {a4 : Int32} (k : wkB l G (d + 1) n_X9_cool Q 28 [.ref 292, .int a1, .int a2, .int a3, .int (a4 + 1)] [] I L R) : wkB l G (d + 1) n_X9_cool Q 68 [.ref 292, .int a1, .int a2, .int a3, .int a4] [] I L R :=
  bb_iinc (i := 4) (n := 1) (zd (i := .iinc 4 (1)) (n := 3) (by decide +kernel)) rfl rfl (by decide +kernel) (wkNl_i rfl) <|
  bb_lift (fun _ => q_goto (off := -43) (tgt := 28) (zd (i := .goto (-43)) (n := 3) (by decide +kernel)) (by decide)) k
theorem w_X9_cool_74 {Q : qQ} {I : qMI} {L : qML} {R : qMR} {a1 : Int32} {a2 : Int32} {a3 : Int32} {a4 : Int32} (k : wkB l G (d + 1) n_X9_cool Q 12 [.ref 292, .int a1, .int a2, .int (a3 + 1), wkU] [] I L R) : wkB l G (d + 1) n_X9_cool Q 74 [.ref 292, .int a1, .int a2, .int a3, .int a4] [] I L R :=
  bb_iinc (i := 3) (n := 1) (zd (i := .iinc 3 (1)) (n := 3) (by decide +kernel)) rfl rfl (by decide +kernel) (wkNl_i rfl) <|
  bb_lift (fun _ => q_goto (off := -65) (tgt := 12) (zd (i := .goto (-65)) (n := 3) (by decide +kernel)) (by decide)) (wkB_le (vs := [.ref 292, .int a1, .int a2, .int (a3 + 1), wkU]) (ws := [.ref 292, .int a1, .int a2, .int (a3 + 1), .int a4]) ⟨Or.inr rfl, Or.inr rfl, Or.inr rfl, Or.inr rfl, Or.inl rfl, trivial⟩ (k))
theorem w_X9_cool_80 {Q : qQ} {I : qMI} {L : qML} {R : qMR} {a1 : Int32} {a2 : Int32} {a3 : Int32} (kt : ¬ a2 = 0 → wkB l G (d + 1) n_X9_cool Q 86 [.ref 292, .int a1, .int a2, .int a3, wkU] [] I L R) (kf : a2 = 0 → wkB l G (d + 1) n_X9_cool Q 84 [.ref 292, .int a1, .int a2, .int a3, wkU] [] I L R) : wkB l G (d + 1) n_X9_cool Q 80 [.ref 292, .int a1, .int a2, .int a3, wkU] [] I L R :=
  bb_iload_n (n := 2) (i := 2) (zd (i := .iload_n 2) (n := 1) (by decide +kernel)) rfl rfl <|
  (fun lv hl => q_if_ne (off := 5) (tgt := 86) (zd (i := .ifCond .ne (5)) (n := 3) (by decide +kernel)) (by decide) (fun h => (kt h) lv hl) (fun h => (kf h) lv hl))
theorem w_X9_cool_84 {Q : qQ} {I : qMI} {L : qML} {R : qMR} {a1 : Int32} {a2 : Int32} {a3 : Int32} (hQ : Q (some (.int a1)) 336 I L R) : wkB l G (d + 1) n_X9_cool Q 84 [.ref 292, .int a1, .int a2, .int a3, wkU] [] I L R :=
  bb_iload_n (n := 1) (i := 1) (zd (i := .iload_n 1) (n := 1) (by decide +kernel)) rfl rfl <|
  (fun lv hl => q_iret (zd (i := .ireturn) (n := 1) (by decide +kernel)) rfl rfl (Nat.le_refl _) (Nat.le_refl _) hQ)
theorem w_X9_cool_86 {Q : qQ} {I : qMI} {L : qML} {R : qMR} {a1 : Int32} {a2 : Int32} {a3 : Int32} (k : wkB l G (d + 1) n_X9_cool Q 2 [.ref 292, .int (a1 + 1), wkU, wkU, wkU] [] I L R) : wkB l G (d + 1) n_X9_cool Q 86 [.ref 292, .int a1, .int a2, .int a3, wkU] [] I L R :=
  bb_iinc (i := 1) (n := 1) (zd (i := .iinc 1 (1)) (n := 3) (by decide +kernel)) rfl rfl (by decide +kernel) (wkNl_r rfl) <|
  bb_lift (fun _ => q_goto (off := -87) (tgt := 2) (zd (i := .goto (-87)) (n := 3) (by decide +kernel)) (by decide)) (wkB_le (vs := [.ref 292, .int (a1 + 1), wkU, wkU, wkU]) (ws := [.ref 292, .int (a1 + 1), .int a2, .int a3, wkU]) ⟨Or.inr rfl, Or.inr rfl, Or.inl rfl, Or.inl rfl, Or.inr rfl, trivial⟩ (k))
theorem w_X9_cool_92 {Q : qQ} {I : qMI} {L : qML} {R : qMR} {a1 : Int32} (hQ : Q (some (.int (-2))) 336 I L R) : wkB l G (d + 1) n_X9_cool Q 92 [.ref 292, .int a1, wkU, wkU, wkU] [] I L R :=
  bb_lift (fun _ => q_bipush (n := -2) (zd (i := .bipush (-2)) (n := 2) (by decide +kernel)) rfl) <|
  (fun lv hl => q_iret (zd (i := .ireturn) (n := 1) (by decide +kernel)) rfl rfl (Nat.le_refl _) (Nat.le_refl _) hQ)
theorem w_X9_near_0 {Q : qQ} {I : qMI} {L : qML} {R : qMR} {a1 : Int32} {a2 : Int32} {P : Int32 → qMI → qML → Prop} (hc : wkI l G d n_X9_isX [.int a1] I L R P) (kk : ∀ y I' L', P y I' L' → wkB l G (d + 1) n_X9_near Q 4 [.ref 292, .int a1, .int a2, wkU, wkU, wkU, wkU] [.int y] I' L' R) : wkB l G (d + 1) n_X9_near Q 0 [.ref 292, .int a1, .int a2, wkU, wkU, wkU, wkU] [] I L R :=
  bb_iload_n (n := 1) (i := 1) (zd (i := .iload_n 1) (n := 1) (by decide +kernel)) rfl rfl <|
  bb_callSI (idx := 387) (N := n_X9_isX) (As := [.int a1]) (st := []) (zd (i := .invokestatic 387) (n := 3) (by decide +kernel)) to_X9_isX g1507 g1508 (Nat.le_of_ble_eq_true rfl) rfl rfl hc kk
theorem w_X9_near_4 {Q : qQ} {I : qMI} {L : qML} {R : qMR} {a1 : Int32} {a2 : Int32} {s0 : Int32} (kt : s0 = 0 → wkB l G (d + 1) n_X9_near Q 16 [.ref 292, .int a1, .int a2, wkU, wkU, wkU, wkU] [] I L R) (kf : ¬ s0 = 0 → wkB l G (d + 1) n_X9_near Q 7 [.ref 292, .int a1, .int a2, wkU, wkU, wkU, wkU] [] I L R) : wkB l G (d + 1) n_X9_near Q 4 [.ref 292, .int a1, .int a2, wkU, wkU, wkU, wkU] [.int s0] I L R :=
  (fun lv hl => q_if_eq (off := 12) (tgt := 16) (zd (i := .ifCond .eq (12)) (n := 3) (by decide +kernel)) (by decide) (fun h => (kt h) lv hl) (fun h => (kf h) lv hl))
theorem w_X9_near_7 {Q : qQ} {I : qMI} {L : qML} {R : qMR} {a1 : Int32} {a2 : Int32} {P : Int32 → qMI → qML → Prop} (hc : wkI l G d n_X9_in [.int a2, .int 0, .int 1] I L R P) (kk : ∀ y I' L', P y I' L' → wkB l G (d + 1) n_X9_near Q 13 [.ref 292, .int a1, .int a2, wkU, wkU, wkU, wkU] [.int y] I' L' R) : wkB l G (d + 1) n_X9_near Q 7 [.ref 292, .int a1, .int a2, wkU, wkU, wkU, wkU] [] I L R :=
  bb_iload_n (n := 2) (i := 2) (zd (i := .iload_n 2) (n := 1) (by decide +kernel)) rfl rfl <|
  bb_lift (fun _ => q_iconst (n := 0) (zd (i := .iconst (0)) (n := 1) (by decide +kernel)) rfl) <|
  bb_lift (fun _ => q_iconst (n := 1) (zd (i := .iconst (1)) (n := 1) (by decide +kernel)) rfl) <|
  bb_callSI (idx := 304) (N := n_X9_in) (As := [.int a2, .int 0, .int 1]) (st := []) (zd (i := .invokestatic 304) (n := 3) (by decide +kernel)) to_X9_in g1442 g1443 (Nat.le_of_ble_eq_true rfl) rfl rfl hc kk
theorem w_X9_near_13 {Q : qQ} {I : qMI} {L : qML} {R : qMR} {a1 : Int32} {a2 : Int32} {s0 : Int32} (kt : ¬ s0 = 0 → wkB l G (d + 1) n_X9_near Q 18 [.ref 292, .int a1, .int a2, wkU, wkU, wkU, wkU] [] I L R) (kf : s0 = 0 → wkB l G (d + 1) n_X9_near Q 16 [.ref 292, .int a1, .int a2, wkU, wkU, wkU, wkU] [] I L R) : wkB l G (d + 1) n_X9_near Q 13 [.ref 292, .int a1, .int a2, wkU, wkU, wkU, wkU] [.int s0] I L R :=
  (fun lv hl => q_if_ne (off := 5) (tgt := 18) (zd (i := .ifCond .ne (5)) (n := 3) (by decide +kernel)) (by decide) (fun h => (kt h) lv hl) (fun h => (kf h) lv hl))
theorem w_X9_near_16 {Q : qQ} {I : qMI} {L : qML} {R : qMR} {a1 : Int32} {a2 : Int32} (hQ : Q (some (.int (-1))) 336 I L R) : wkB l G (d + 1) n_X9_near Q 16 [.ref 292, .int a1, .int a2, wkU, wkU, wkU, wkU] [] I L R :=
  bb_lift (fun _ => q_iconst (n := -1) (zd (i := .iconst (-1)) (n := 1) (by decide +kernel)) rfl) <|
  (fun lv hl => q_iret (zd (i := .ireturn) (n := 1) (by decide +kernel)) rfl rfl (Nat.le_refl _) (Nat.le_refl _) hQ)
theorem w_X9_near_18 {Q : qQ} {I : qMI} {L : qML} {R : qMR} {a1 : Int32} {a2 : Int32} (k : wkB l G (d + 1) n_X9_near Q 28 [.ref 292, .int a1, .int a2, .int (-2), .int (-2), .int 0, wkU] [] I L R) : wkB l G (d + 1) n_X9_near Q 18 [.ref 292, .int a1, .int a2, wkU, wkU, wkU, wkU] [] I L R :=
  bb_lift (fun _ => q_bipush (n := -2) (zd (i := .bipush (-2)) (n := 2) (by decide +kernel)) rfl) <|
  bb_istore_n (n := 3) (i := 3) (zd (i := .istore_n 3) (n := 1) (by decide +kernel)) rfl (by decide +kernel) (wkNl_i rfl) <|
  bb_lift (fun _ => q_bipush (n := -2) (zd (i := .bipush (-2)) (n := 2) (by decide +kernel)) rfl) <|
  bb_istore (i := 4) (zd (i := .istore 4) (n := 2) (by decide +kernel)) (by decide +kernel) (wkNl_i rfl) <|
  bb_lift (fun _ => q_iconst (n := 0) (zd (i := .iconst (0)) (n := 1) (by decide +kernel)) rfl) <|
  bb_istore (i := 5) (zd (i := .istore 5) (n := 2) (by decide +kernel)) (by decide +kernel) (wkNl_i rfl) <|
  k
theorem w_X9_near_28 {Q : qQ} {I : qMI} {L : qML} {R : qMR} (hR : wkR R) {a1 : Int32} {a2 : Int32} {a3 : Int32} {a4 : Int32} {a5 : Int32} (h1 : vp_in (I 292 18) 2) (kt : (I 301 (I 292 18).toNatClampNeg) ≤ a5 → wkB l G (d + 1) n_X9_near Q 98 [.ref 292, .int a1, .int a2, .int a3, .int a4, .int a5, wkU] [] I L R) (kf : ¬ (I 301 (I 292 18).toNatClampNeg) ≤ a5 → wkB l G (d + 1) n_X9_near Q 42 [.ref 292, .int a1, .int a2, .int a3, .int a4, .int a5, wkU] [] I L R) : wkB l G (d + 1) n_X9_near Q 28 [.ref 292, .int a1, .int a2, .int a3, .int a4, .int a5, wkU] [] I L R :=
  bb_iload (i := 5) (zd (i := .iload 5) (n := 2) (by decide +kernel)) rfl <|
  bb_aload_n (n := 0) (i := 0) (zd (i := .aload_n 0) (n := 1) (by decide +kernel)) rfl rfl <|
  bb_getr (k := 292) (ci := 9) (j := 22) (idx := 43) (a := 301) (zd (i := .getfield 43) (n := 3) (by decide +kernel)) (by decide +kernel) (by decide +kernel) (by decide +kernel) (by decide +kernel) rfl g1150 (hR 22 (by decide)) <|
  bb_aload_n (n := 0) (i := 0) (zd (i := .aload_n 0) (n := 1) (by decide +kernel)) rfl rfl <|
  bb_geti (k := 292) (ci := 9) (j := 18) (idx := 230) (zd (i := .getfield 230) (n := 3) (by decide +kernel)) (by decide +kernel) (by decide +kernel) (by decide +kernel) (by decide +kernel) rfl g1146 <|
  bb_lift (fun _ => q_iald (k := 301) (zd (i := .iaload) (n := 1) (by decide +kernel)) (by decide +kernel) (by decide +kernel) h1) <|
  (fun lv hl => q_icmp_ge (off := 59) (tgt := 98) (zd (i := .if_icmp .ge (59)) (n := 3) (by decide +kernel)) (by decide) (fun h => (kt h) lv hl) (fun h => (kf h) lv hl))
theorem w_X9_near_42 {Q : qQ} {I : qMI} {L : qML} {R : qMR} (hR : wkR R) {a1 : Int32} {a2 : Int32} {a3 : Int32} {a4 : Int32} {a5 : Int32} (h1 : vp_in 96 97) {P : Int32 → qMI → qML → Prop} (hc : wkI l G d n_X9_sightOf [.ref 292, .int a1, .int a5, .int (I 323 (96 : Int32).toNatClampNeg)] I L R P) (kk : ∀ y I' L', P y I' L' → wkB l G (d + 1) n_X9_near Q 56 [.ref 292, .int a1, .int a2, .int a3, .int a4, .int a5, wkU] [.int y] I' L' R) : wkB l G (d + 1) n_X9_near Q 42 [.ref 292, .int a1, .int a2, .int a3, .int a4, .int a5, wkU] [] I L R :=
  bb_aload_n (n := 0) (i := 0) (zd (i := .aload_n 0) (n := 1) (by decide +kernel)) rfl rfl <|
  bb_iload_n (n := 1) (i := 1) (zd (i := .iload_n 1) (n := 1) (by decide +kernel)) rfl rfl <|
  bb_iload (i := 5) (zd (i := .iload 5) (n := 2) (by decide +kernel)) rfl <|
  bb_aload_n (n := 0) (i := 0) (zd (i := .aload_n 0) (n := 1) (by decide +kernel)) rfl rfl <|
  bb_getr (k := 292) (ci := 9) (j := 48) (idx := 110) (a := 323) (zd (i := .getfield 110) (n := 3) (by decide +kernel)) (by decide +kernel) (by decide +kernel) (by decide +kernel) (by decide +kernel) rfl g1176 (hR 48 (by decide)) <|
  bb_lift (fun _ => q_bipush (n := 96) (zd (i := .bipush (96)) (n := 2) (by decide +kernel)) rfl) <|
  bb_lift (fun _ => q_iald (k := 323) (zd (i := .iaload) (n := 1) (by decide +kernel)) (by decide +kernel) (by decide +kernel) h1) <|
  bb_callVI (idx := 399) (k := 292) (ci := 9) (N := n_X9_sightOf) (As := [.int a1, .int a5, .int (I 323 (96 : Int32).toNatClampNeg)]) (st := []) (zd (i := .invokevirtual 399) (n := 3) (by decide +kernel)) to_X9_sightOf g1578 g1580 g87 (Nat.le_of_ble_eq_true rfl) (by decide +kernel) (by decide +kernel) (by decide +kernel) rfl rfl rfl hc kk
theorem w_X9_near_56 {Q : qQ} {I : qMI} {L : qML} {R : qMR} {a1 : Int32} {a2 : Int32} {a3 : Int32} {a4 : Int32} {a5 : Int32} {s0 : Int32} (kt : s0 < 0 → wkB l G (d + 1) n_X9_near Q 92 [.ref 292, .int a1, .int a2, .int a3, .int a4, .int a5, .int s0] [] I L R) (kf : ¬ s0 < 0 → wkB l G (d + 1) n_X9_near Q 63 [.ref 292, .int a1, .int a2, .int a3, .int a4, .int a5, .int s0] [] I L R) : wkB l G (d + 1) n_X9_near Q 56 [.ref 292, .int a1, .int a2, .int a3, .int a4, .int a5, wkU] [.int s0] I L R :=
  bb_istore (i := 6) (zd (i := .istore 6) (n := 2) (by decide +kernel)) (by decide +kernel) (wkNl_i rfl) <|
  bb_iload (i := 6) (zd (i := .iload 6) (n := 2) (by decide +kernel)) rfl <|
  (fun lv hl => q_if_lt (off := 32) (tgt := 92) (zd (i := .ifCond .lt (32)) (n := 3) (by decide +kernel)) (by decide) (fun h => (kt h) lv hl) (fun h => (kf h) lv hl))
theorem w_X9_near_63 {Q : qQ} {I : qMI} {L : qML} {R : qMR} {a1 : Int32} {a2 : Int32} {a3 : Int32} {a4 : Int32} {a5 : Int32} {a6 : Int32} (kt : a3 < 0 → wkB l G (d + 1) n_X9_near Q 81 [.ref 292, .int a1, .int a2, .int a3, .int a4, .int a5, .int a6] [] I L R) (kf : ¬ a3 < 0 → wkB l G (d + 1) n_X9_near Q 67 [.ref 292, .int a1, .int a2, .int a3, .int a4, .int a5, .int a6] [] I L R) : wkB l G (d + 1) n_X9_near Q 63 [.ref 292, .int a1, .int a2, .int a3, .int a4, .int a5, .int a6] [] I L R :=
  bb_iload_n (n := 3) (i := 3) (zd (i := .iload_n 3) (n := 1) (by decide +kernel)) rfl rfl <|
  (fun lv hl => q_if_lt (off := 17) (tgt := 81) (zd (i := .ifCond .lt (17)) (n := 3) (by decide +kernel)) (by decide) (fun h => (kt h) lv hl) (fun h => (kf h) lv hl))
theorem w_X9_near_67 {Q : qQ} {I : qMI} {L : qML} {R : qMR} {a1 : Int32} {a2 : Int32} {a3 : Int32} {a4 : Int32} {a5 : Int32} {a6 : Int32} {P : Int32 → qMI → qML → Prop} (hc : wkI l G d n_X9_off [.int a6, .int a1] I L R P) (kk : ∀ y I' L', P y I' L' → wkB l G (d + 1) n_X9_near Q 73 [.ref 292, .int a1, .int a2, .int a3, .int a4, .int a5, .int a6] [.int y] I' L' R) : wkB l G (d + 1) n_X9_near Q 67 [.ref 292, .int a1, .int a2, .int a3, .int a4, .int a5, .int a6] [] I L R :=
  bb_iload (i := 6) (zd (i := .iload 6) (n := 2) (by decide +kernel)) rfl <|
  bb_iload_n (n := 1) (i := 1) (zd (i := .iload_n 1) (n := 1) (by decide +kernel)) rfl rfl <|
  bb_callSI (idx := 330) (N := n_X9_off) (As := [.int a6, .int a1]) (st := []) (zd (i := .invokestatic 330) (n := 3) (by decide +kernel)) to_X9_off g1480 g1481 (Nat.le_of_ble_eq_true rfl) rfl rfl hc kk
theorem w_X9_near_73 {Q : qQ} {I : qMI} {L : qML} {R : qMR} {a1 : Int32} {a2 : Int32} {a3 : Int32} {a4 : Int32} {a5 : Int32} {a6 : Int32} {s0 : Int32} (kt : s0 < a4 → wkB l G (d + 1) n_X9_near Q 81 [.ref 292, .int a1, .int a2, .int a3, .int a4, .int a5, .int a6] [] I L R) (kf : ¬ s0 < a4 → wkB l G (d + 1) n_X9_near Q 78 [.ref 292, .int a1, .int a2, .int a3, .int a4, .int a5, .int a6] [] I L R) : wkB l G (d + 1) n_X9_near Q 73 [.ref 292, .int a1, .int a2, .int a3, .int a4, .int a5, .int a6] [.int s0] I L R :=
  bb_iload (i := 4) (zd (i := .iload 4) (n := 2) (by decide +kernel)) rfl <|
  (fun lv hl => q_icmp_lt (off := 6) (tgt := 81) (zd (i := .if_icmp .lt (6)) (n := 3) (by decide +kernel)) (by decide) (fun h => (kt h) lv hl) (fun h => (kf h) lv hl))
theorem w_X9_near_78 {Q : qQ} {I : qMI} {L : qML} {R : qMR} {a1 : Int32} {a2 : Int32} {a3 : Int32} {a4 : Int32} {a5 : Int32} {a6 : Int32} (k : wkB l G (d + 1) n_X9_near Q 92 [.ref 292, .int a1, .int a2, .int a3, .int a4, .int a5, .int a6] [] I L R) : wkB l G (d + 1) n_X9_near Q 78 [.ref 292, .int a1, .int a2, .int a3, .int a4, .int a5, .int a6] [] I L R :=
  bb_lift (fun _ => q_goto (off := 14) (tgt := 92) (zd (i := .goto (14)) (n := 3) (by decide +kernel)) (by decide)) k
theorem w_X9_near_81 {Q : qQ} {I : qMI} {L : qML} {R : qMR} {a1 : Int32} {a2 : Int32} {a3 : Int32} {a4 : Int32} {a5 : Int32} {a6 : Int32} {P : Int32 → qMI → qML → Prop} (hc : wkI l G d n_X9_off [.int a6, .int a1] I L R P) (kk : ∀ y I' L', P y I' L' → wkB l G (d + 1) n_X9_near Q 90 [.ref 292, .int a1, .int a2, .int a5, .int a4, .int a5, .int a6] [.int y] I' L' R) : wkB l G (d + 1) n_X9_near Q 81 [.ref 292, .int a1, .int a2, .int a3, .int a4, .int a5, .int a6] [] I L R :=
  bb_iload (i := 5) (zd (i := .iload 5) (n := 2) (by decide +kernel)) rfl <|
  bb_istore_n (n := 3) (i := 3) (zd (i := .istore_n 3) (n := 1) (by decide +kernel)) rfl (by decide +kernel) (wkNl_i rfl) <|
  bb_iload (i := 6) (zd (i := .iload 6) (n := 2) (by decide +kernel)) rfl <|
  bb_iload_n (n := 1) (i := 1) (zd (i := .iload_n 1) (n := 1) (by decide +kernel)) rfl rfl <|
  bb_callSI (idx := 330) (N := n_X9_off) (As := [.int a6, .int a1]) (st := []) (zd (i := .invokestatic 330) (n := 3) (by decide +kernel)) to_X9_off g1480 g1481 (Nat.le_of_ble_eq_true rfl) rfl rfl hc kk
theorem w_X9_near_90 {Q : qQ} {I : qMI} {L : qML} {R : qMR} {a1 : Int32} {a2 : Int32} {a3 : Int32} {a4 : Int32} {a5 : Int32} {a6 : Int32} {s0 : Int32} (k : wkB l G (d + 1) n_X9_near Q 92 [.ref 292, .int a1, .int a2, .int a3, .int s0, .int a5, .int a6] [] I L R) : wkB l G (d + 1) n_X9_near Q 90 [.ref 292, .int a1, .int a2, .int a3, .int a4, .int a5, .int a6] [.int s0] I L R :=
  bb_istore (i := 4) (zd (i := .istore 4) (n := 2) (by decide +kernel)) (by decide +kernel) (wkNl_i rfl) <|
  k
theorem w_X9_near_92 {Q : qQ} {I : qMI} {L : qML} {R : qMR} {a1 : Int32} {a2 : Int32} {a3 : Int32} {a4 : Int32} {a5 : Int32} {a6 : Int32} (k : wkB l G (d + 1) n_X9_near Q 28 [.ref 292, .int a1, .int a2, .int a3, .int a4, .int (a5 + 1), wkU] [] I L R) : wkB l G (d + 1) n_X9_near Q 92 [.ref 292, .int a1, .int a2, .int a3, .int a4, .int a5, .int a6] [] I L R :=
  bb_iinc (i := 5) (n := 1) (zd (i := .iinc 5 (1)) (n := 3) (by decide +kernel)) rfl rfl (by decide +kernel) (wkNl_i rfl) <|
  bb_lift (fun _ => q_goto (off := -67) (tgt := 28) (zd (i := .goto (-67)) (n := 3) (by decide +kernel)) (by decide)) (wkB_le (vs := [.ref 292, .int a1, .int a2, .int a3, .int a4, .int (a5 + 1), wkU]) (ws := [.ref 292, .int a1, .int a2, .int a3, .int a4, .int (a5 + 1), .int a6]) ⟨Or.inr rfl, Or.inr rfl, Or.inr rfl, Or.inr rfl, Or.inr rfl, Or.inr rfl, Or.inl rfl, trivial⟩ (k))
theorem w_X9_near_98 {Q : qQ} {I : qMI} {L : qML} {R : qMR} {a1 : Int32} {a2 : Int32} {a3 : Int32} {a4 : Int32} {a5 : Int32} (kt : ¬ a2 = 0 → wkB l G (d + 1) n_X9_near Q 106 [.ref 292, .int a1, .int a2, .int a3, .int a4, .int a5, wkU] [] I L R) (kf : a2 = 0 → wkB l G (d + 1) n_X9_near Q 102 [.ref 292, .int a1, .int a2, .int a3, .int a4, .int a5, wkU] [] I L R) : wkB l G (d + 1) n_X9_near Q 98 [.ref 292, .int a1, .int a2, .int a3, .int a4, .int a5, wkU] [] I L R :=
  bb_iload_n (n := 2) (i := 2) (zd (i := .iload_n 2) (n := 1) (by decide +kernel)) rfl rfl <|
  (fun lv hl => q_if_ne (off := 7) (tgt := 106) (zd (i := .ifCond .ne (7)) (n := 3) (by decide +kernel)) (by decide) (fun h => (kt h) lv hl) (fun h => (kf h) lv hl))
theorem w_X9_near_102 {Q : qQ} {I : qMI} {L : qML} {R : qMR} {a1 : Int32} {a2 : Int32} {a3 : Int32} {a4 : Int32} {a5 : Int32} (k : wkB l G (d + 1) n_X9_near Q 108 [.ref 292, .int a1, .int a2, .int a3, .int a4, .int a5, wkU] [.int a3] I L R) : wkB l G (d + 1) n_X9_near Q 102 [.ref 292, .int a1, .int a2, .int a3, .int a4, .int a5, wkU] [] I L R :=
  bb_iload_n (n := 3) (i := 3) (zd (i := .iload_n 3) (n := 1) (by decide +kernel)) rfl rfl <|
  bb_lift (fun _ => q_goto (off := 5) (tgt := 108) (zd (i := .goto (5)) (n := 3) (by decide +kernel)) (by decide)) k
theorem w_X9_near_106 {Q : qQ} {I : qMI} {L : qML} {R : qMR} {a1 : Int32} {a2 : Int32} {a3 : Int32} {a4 : Int32} {a5 : Int32} (k : wkB l G (d + 1) n_X9_near Q 108 [.ref 292, .int a1, .int a2, .int a3, .int a4, .int a5, wkU] [.int a4] I L R) : wkB l G (d + 1) n_X9_near Q 106 [.ref 292, .int a1, .int a2, .int a3, .int a4, .int a5, wkU] [] I L R :=
  bb_iload (i := 4) (zd (i := .iload 4) (n := 2) (by decide +kernel)) rfl <|
  k
theorem w_X9_near_108 {Q : qQ} {I : qMI} {L : qML} {R : qMR} {a1 : Int32} {a2 : Int32} {a3 : Int32} {a4 : Int32} {a5 : Int32} {s0 : Int32} (hQ : Q (some (.int s0)) 336 I L R) : wkB l G (d + 1) n_X9_near Q 108 [.ref 292, .int a1, .int a2, .int a3, .int a4, .int a5, wkU] [.int s0] I L R :=
  (fun lv hl => q_iret (zd (i := .ireturn) (n := 1) (by decide +kernel)) rfl rfl (Nat.le_refl _) (Nat.le_refl _) hQ)
theorem w_X9_crowd_0 {Q : qQ} {I : qMI} {L : qML} {R : qMR} {a1 : Int32} {P : Int32 → qMI → qML → Prop} (hc : wkI l G d n_X9_isX [.int a1] I L R P) (kk : ∀ y I' L', P y I' L' → wkB l G (d + 1) n_X9_crowd Q 4 [.ref 292, .int a1, wkU, wkU, wkU] [.int y] I' L' R) : wkB l G (d + 1) n_X9_crowd Q 0 [.ref 292, .int a1, wkU, wkU, wkU] [] I L R :=
  bb_iload_n (n := 1) (i := 1) (zd (i := .iload_n 1) (n := 1) (by decide +kernel)) rfl rfl <|
  bb_callSI (idx := 387) (N := n_X9_isX) (As := [.int a1]) (st := []) (zd (i := .invokestatic 387) (n := 3) (by decide +kernel)) to_X9_isX g1507 g1508 (Nat.le_of_ble_eq_true rfl) rfl rfl hc kk
theorem w_X9_crowd_4 {Q : qQ} {I : qMI} {L : qML} {R : qMR} {a1 : Int32} {s0 : Int32} (kt : ¬ s0 = 0 → wkB l G (d + 1) n_X9_crowd Q 9 [.ref 292, .int a1, wkU, wkU, wkU] [] I L R) (kf : s0 = 0 → wkB l G (d + 1) n_X9_crowd Q 7 [.ref 292, .int a1, wkU, wkU, wkU] [] I L R) : wkB l G (d + 1) n_X9_crowd Q 4 [.ref 292, .int a1, wkU, wkU, wkU] [.int s0] I L R :=
  (fun lv hl => q_if_ne (off := 5) (tgt := 9) (zd (i := .ifCond .ne (5)) (n := 3) (by decide +kernel)) (by decide) (fun h => (kt h) lv hl) (fun h => (kf h) lv hl))
theorem w_X9_crowd_7 {Q : qQ} {I : qMI} {L : qML} {R : qMR} {a1 : Int32} (hQ : Q (some (.int (-1))) 336 I L R) : wkB l G (d + 1) n_X9_crowd Q 7 [.ref 292, .int a1, wkU, wkU, wkU] [] I L R :=
  bb_lift (fun _ => q_iconst (n := -1) (zd (i := .iconst (-1)) (n := 1) (by decide +kernel)) rfl) <|
  (fun lv hl => q_iret (zd (i := .ireturn) (n := 1) (by decide +kernel)) rfl rfl (Nat.le_refl _) (Nat.le_refl _) hQ)
theorem w_X9_crowd_9 {Q : qQ} {I : qMI} {L : qML} {R : qMR} {a1 : Int32} {P : qMI → qML → Prop} (hc : wkV l G d n_X9_copies [.ref 292] I L R P) (kk : ∀ I' L', P I' L' → wkB l G (d + 1) n_X9_crowd Q 13 [.ref 292, .int a1, wkU, wkU, wkU] [] I' L' R) : wkB l G (d + 1) n_X9_crowd Q 9 [.ref 292, .int a1, wkU, wkU, wkU] [] I L R :=
  bb_aload_n (n := 0) (i := 0) (zd (i := .aload_n 0) (n := 1) (by decide +kernel)) rfl rfl <|
  bb_callVV (idx := 375) (k := 292) (ci := 9) (N := n_X9_copies) (As := []) (st := []) (zd (i := .invokevirtual 375) (n := 3) (by decide +kernel)) to_X9_copies g1445 g1447 g67 (Nat.le_of_ble_eq_true rfl) (by decide +kernel) (by decide +kernel) (by decide +kernel) rfl rfl rfl hc kk
theorem w_X9_crowd_13 {Q : qQ} {I : qMI} {L : qML} {R : qMR} {a1 : Int32} (k : wkB l G (d + 1) n_X9_crowd Q 17 [.ref 292, .int a1, .int 0, .int 0, wkU] [] I L R) : wkB l G (d + 1) n_X9_crowd Q 13 [.ref 292, .int a1, wkU, wkU, wkU] [] I L R :=
  bb_lift (fun _ => q_iconst (n := 0) (zd (i := .iconst (0)) (n := 1) (by decide +kernel)) rfl) <|
  bb_istore_n (n := 2) (i := 2) (zd (i := .istore_n 2) (n := 1) (by decide +kernel)) rfl (by decide +kernel) (wkNl_i rfl) <|
  bb_lift (fun _ => q_iconst (n := 0) (zd (i := .iconst (0)) (n := 1) (by decide +kernel)) rfl) <|
  bb_istore_n (n := 3) (i := 3) (zd (i := .istore_n 3) (n := 1) (by decide +kernel)) rfl (by decide +kernel) (wkNl_i rfl) <|
  k
theorem w_X9_crowd_17 {Q : qQ} {I : qMI} {L : qML} {R : qMR} (hR : wkR R) {a1 : Int32} {a2 : Int32} {a3 : Int32} (h1 : vp_in (I 292 18) 2) (kt : (I 304 (I 292 18).toNatClampNeg) ≤ a3 → wkB l G (d + 1) n_X9_crowd Q 89 [.ref 292, .int a1, .int a2, .int a3, wkU] [] I L R) (kf : ¬ (I 304 (I 292 18).toNatClampNeg) ≤ a3 → wkB l G (d + 1) n_X9_crowd Q 30 [.ref 292, .int a1, .int a2, .int a3, wkU] [] I L R) : wkB l G (d + 1) n_X9_crowd Q 17 [.ref 292, .int a1, .int a2, .int a3, wkU] [] I L R :=
  bb_iload_n (n := 3) (i := 3) (zd (i := .iload_n 3) (n := 1) (by decide +kernel)) rfl rfl <|
  bb_aload_n (n := 0) (i := 0) (zd (i := .aload_n 0) (n := 1) (by decide +kernel)) rfl rfl <|
  bb_getr (k := 292) (ci := 9) (j := 25) (idx := 52) (a := 304) (zd (i := .getfield 52) (n := 3) (by decide +kernel)) (by decide +kernel) (by decide +kernel) (by decide +kernel) (by decide +kernel) rfl g1153 (hR 25 (by decide)) <|
  bb_aload_n (n := 0) (i := 0) (zd (i := .aload_n 0) (n := 1) (by decide +kernel)) rfl rfl <|
  bb_geti (k := 292) (ci := 9) (j := 18) (idx := 230) (zd (i := .getfield 230) (n := 3) (by decide +kernel)) (by decide +kernel) (by decide +kernel) (by decide +kernel) (by decide +kernel) rfl g1146 <|
  bb_lift (fun _ => q_iald (k := 304) (zd (i := .iaload) (n := 1) (by decide +kernel)) (by decide +kernel) (by decide +kernel) h1) <|
  (fun lv hl => q_icmp_ge (off := 62) (tgt := 89) (zd (i := .if_icmp .ge (62)) (n := 3) (by decide +kernel)) (by decide) (fun h => (kt h) lv hl) (fun h => (kf h) lv hl))
theorem w_X9_crowd_30 {Q : qQ} {I : qMI} {L : qML} {R : qMR} {a1 : Int32} {a2 : Int32} {a3 : Int32} (k : wkB l G (d + 1) n_X9_crowd Q 33 [.ref 292, .int a1, .int a2, .int a3, .int 0] [] I L R) : wkB l G (d + 1) n_X9_crowd Q 30 [.ref 292, .int a1, .int a2, .int a3, wkU] [] I L R :=
  bb_lift (fun _ => q_iconst (n := 0) (zd (i := .iconst (0)) (n := 1) (by decide +kernel)) rfl) <|
  bb_istore (i := 4) (zd (i := .istore 4) (n := 2) (by decide +kernel)) (by decide +kernel) (wkNl_i rfl) <|
  k
theorem w_X9_crowd_33 {Q : qQ} {I : qMI} {L : qML} {R : qMR} (hR : wkR R) {a1 : Int32} {a2 : Int32} {a3 : Int32} {a4 : Int32} (h1 : vp_in (I 292 18) 2) (kt : (I 301 (I 292 18).toNatClampNeg) ≤ a4 → wkB l G (d + 1) n_X9_crowd Q 83 [.ref 292, .int a1, .int a2, .int a3, .int a4] [] I L R) (kf : ¬ (I 301 (I 292 18).toNatClampNeg) ≤ a4 → wkB l G (d + 1) n_X9_crowd Q 47 [.ref 292, .int a1, .int a2, .int a3, .int a4] [] I L R) : wkB l G (d + 1) n_X9_crowd Q 33 [.ref 292, .int a1, .int a2, .int a3, .int a4] [] I L R :=
  bb_iload (i := 4) (zd (i := .iload 4) (n := 2) (by decide +kernel)) rfl <|
  bb_aload_n (n := 0) (i := 0) (zd (i := .aload_n 0) (n := 1) (by decide +kernel)) rfl rfl <|
  bb_getr (k := 292) (ci := 9) (j := 22) (idx := 43) (a := 301) (zd (i := .getfield 43) (n := 3) (by decide +kernel)) (by decide +kernel) (by decide +kernel) (by decide +kernel) (by decide +kernel) rfl g1150 (hR 22 (by decide)) <|
  bb_aload_n (n := 0) (i := 0) (zd (i := .aload_n 0) (n := 1) (by decide +kernel)) rfl rfl <|
  bb_geti (k := 292) (ci := 9) (j := 18) (idx := 230) (zd (i := .getfield 230) (n := 3) (by decide +kernel)) (by decide +kernel) (by decide +kernel) (by decide +kernel) (by decide +kernel) rfl g1146 <|
  bb_lift (fun _ => q_iald (k := 301) (zd (i := .iaload) (n := 1) (by decide +kernel)) (by decide +kernel) (by decide +kernel) h1) <|
  (fun lv hl => q_icmp_ge (off := 39) (tgt := 83) (zd (i := .if_icmp .ge (39)) (n := 3) (by decide +kernel)) (by decide) (fun h => (kt h) lv hl) (fun h => (kf h) lv hl))
theorem w_X9_crowd_47 {Q : qQ} {I : qMI} {L : qML} {R : qMR} (hR : wkR R) {a1 : Int32} {a2 : Int32} {a3 : Int32} {a4 : Int32} (h1 : vp_in a3 97) (h2 : vp_in 96 97) {P : Int32 → qMI → qML → Prop} (hc : wkI l G d n_X9_sightOf [.ref 292, .int (I 324 a3.toNatClampNeg), .int a4, .int (I 324 (96 : Int32).toNatClampNeg)] I L R P) (kk : ∀ y I' L', P y I' L' → wkB l G (d + 1) n_X9_crowd Q 66 [.ref 292, .int a1, .int a2, .int a3, .int a4] [.int y] I' L' R) : wkB l G (d + 1) n_X9_crowd Q 47 [.ref 292, .int a1, .int a2, .int a3, .int a4] [] I L R :=
  bb_aload_n (n := 0) (i := 0) (zd (i := .aload_n 0) (n := 1) (by decide +kernel)) rfl rfl <|
  bb_aload_n (n := 0) (i := 0) (zd (i := .aload_n 0) (n := 1) (by decide +kernel)) rfl rfl <|
  bb_getr (k := 292) (ci := 9) (j := 49) (idx := 113) (a := 324) (zd (i := .getfield 113) (n := 3) (by decide +kernel)) (by decide +kernel) (by decide +kernel) (by decide +kernel) (by decide +kernel) rfl g1177 (hR 49 (by decide)) <|
  bb_iload_n (n := 3) (i := 3) (zd (i := .iload_n 3) (n := 1) (by decide +kernel)) rfl rfl <|
  bb_lift (fun _ => q_iald (k := 324) (zd (i := .iaload) (n := 1) (by decide +kernel)) (by decide +kernel) (by decide +kernel) h1) <|
  bb_iload (i := 4) (zd (i := .iload 4) (n := 2) (by decide +kernel)) rfl <|
  bb_aload_n (n := 0) (i := 0) (zd (i := .aload_n 0) (n := 1) (by decide +kernel)) rfl rfl <|
  bb_getr (k := 292) (ci := 9) (j := 49) (idx := 113) (a := 324) (zd (i := .getfield 113) (n := 3) (by decide +kernel)) (by decide +kernel) (by decide +kernel) (by decide +kernel) (by decide +kernel) rfl g1177 (hR 49 (by decide)) <|
  bb_lift (fun _ => q_bipush (n := 96) (zd (i := .bipush (96)) (n := 2) (by decide +kernel)) rfl) <|
  bb_lift (fun _ => q_iald (k := 324) (zd (i := .iaload) (n := 1) (by decide +kernel)) (by decide +kernel) (by decide +kernel) h2) <|
  bb_callVI (idx := 399) (k := 292) (ci := 9) (N := n_X9_sightOf) (As := [.int (I 324 a3.toNatClampNeg), .int a4, .int (I 324 (96 : Int32).toNatClampNeg)]) (st := []) (zd (i := .invokevirtual 399) (n := 3) (by decide +kernel)) to_X9_sightOf g1578 g1580 g87 (Nat.le_of_ble_eq_true rfl) (by decide +kernel) (by decide +kernel) (by decide +kernel) rfl rfl rfl hc kk
theorem w_X9_crowd_66 {Q : qQ} {I : qMI} {L : qML} {R : qMR} {a1 : Int32} {a2 : Int32} {a3 : Int32} {a4 : Int32} {s0 : Int32} (kt : ¬ s0 = a1 → wkB l G (d + 1) n_X9_crowd Q 77 [.ref 292, .int a1, .int a2, .int a3, .int a4] [] I L R) (kf : s0 = a1 → wkB l G (d + 1) n_X9_crowd Q 70 [.ref 292, .int a1, .int a2, .int a3, .int a4] [] I L R) : wkB l G (d + 1) n_X9_crowd Q 66 [.ref 292, .int a1, .int a2, .int a3, .int a4] [.int s0] I L R :=
  bb_iload_n (n := 1) (i := 1) (zd (i := .iload_n 1) (n := 1) (by decide +kernel)) rfl rfl <|
  (fun lv hl => q_icmp_ne (off := 10) (tgt := 77) (zd (i := .if_icmp .ne (10)) (n := 3) (by decide +kernel)) (by decide) (fun h => (kt h) lv hl) (fun h => (kf h) lv hl))
theorem w_X9_crowd_70 {Q : qQ} {I : qMI} {L : qML} {R : qMR} {a1 : Int32} {a2 : Int32} {a3 : Int32} {a4 : Int32} (k : wkB l G (d + 1) n_X9_crowd Q 77 [.ref 292, .int a1, .int (a2 ||| (1 <<< (a4 &&& 31))), .int a3, .int a4] [] I L R) : wkB l G (d + 1) n_X9_crowd Q 70 [.ref 292, .int a1, .int a2, .int a3, .int a4] [] I L R :=
  bb_iload_n (n := 2) (i := 2) (zd (i := .iload_n 2) (n := 1) (by decide +kernel)) rfl rfl <|
  bb_lift (fun _ => q_iconst (n := 1) (zd (i := .iconst (1)) (n := 1) (by decide +kernel)) rfl) <|
  bb_iload (i := 4) (zd (i := .iload 4) (n := 2) (by decide +kernel)) rfl <|
  bb_lift (fun _ => q_ishl (zd (i := .ishl) (n := 1) (by decide +kernel))) <|
  bb_lift (fun _ => q_ior (zd (i := .ior) (n := 1) (by decide +kernel))) <|
  bb_istore_n (n := 2) (i := 2) (zd (i := .istore_n 2) (n := 1) (by decide +kernel)) rfl (by decide +kernel) (wkNl_i rfl) <|
  k
theorem w_X9_crowd_77 {Q : qQ} {I : qMI} {L : qML} {R : qMR} {a1 : Int32} {a2 : Int32} {a3 : Int32} {a4 : Int32} (k : wkB l G (d + 1) n_X9_crowd Q 33 [.ref 292, .int a1, .int a2, .int a3, .int (a4 + 1)] [] I L R) : wkB l G (d + 1) n_X9_crowd Q 77 [.ref 292, .int a1, .int a2, .int a3, .int a4] [] I L R :=
  bb_iinc (i := 4) (n := 1) (zd (i := .iinc 4 (1)) (n := 3) (by decide +kernel)) rfl rfl (by decide +kernel) (wkNl_i rfl) <|
  bb_lift (fun _ => q_goto (off := -47) (tgt := 33) (zd (i := .goto (-47)) (n := 3) (by decide +kernel)) (by decide)) k
theorem w_X9_crowd_83 {Q : qQ} {I : qMI} {L : qML} {R : qMR} {a1 : Int32} {a2 : Int32} {a3 : Int32} {a4 : Int32} (k : wkB l G (d + 1) n_X9_crowd Q 17 [.ref 292, .int a1, .int a2, .int (a3 + 1), wkU] [] I L R) : wkB l G (d + 1) n_X9_crowd Q 83 [.ref 292, .int a1, .int a2, .int a3, .int a4] [] I L R :=
  bb_iinc (i := 3) (n := 1) (zd (i := .iinc 3 (1)) (n := 3) (by decide +kernel)) rfl rfl (by decide +kernel) (wkNl_i rfl) <|
  bb_lift (fun _ => q_goto (off := -69) (tgt := 17) (zd (i := .goto (-69)) (n := 3) (by decide +kernel)) (by decide)) (wkB_le (vs := [.ref 292, .int a1, .int a2, .int (a3 + 1), wkU]) (ws := [.ref 292, .int a1, .int a2, .int (a3 + 1), .int a4]) ⟨Or.inr rfl, Or.inr rfl, Or.inr rfl, Or.inr rfl, Or.inl rfl, trivial⟩ (k))
theorem w_X9_crowd_89 {Q : qQ} {I : qMI} {L : qML} {R : qMR} {a1 : Int32} {a2 : Int32} {a3 : Int32} (hQ : Q (some (.int a2)) 336 I L R) : wkB l G (d + 1) n_X9_crowd Q 89 [.ref 292, .int a1, .int a2, .int a3, wkU] [] I L R :=
  bb_iload_n (n := 2) (i := 2) (zd (i := .iload_n 2) (n := 1) (by decide +kernel)) rfl rfl <|
  (fun lv hl => q_iret (zd (i := .ireturn) (n := 1) (by decide +kernel)) rfl rfl (Nat.le_refl _) (Nat.le_refl _) hQ)
theorem w_X9_rich_0 {Q : qQ} {I : qMI} {L : qML} {R : qMR} {a1 : Int32} {a2 : Int32} {P : Int32 → qMI → qML → Prop} (hc : wkI l G d n_X9_isLong [.int a1] I L R P) (kk : ∀ y I' L', P y I' L' → wkB l G (d + 1) n_X9_rich Q 4 [.ref 292, .int a1, .int a2, wkU, wkU, wkU, wkU] [.int y] I' L' R) : wkB l G (d + 1) n_X9_rich Q 0 [.ref 292, .int a1, .int a2, wkU, wkU, wkU, wkU] [] I L R :=
  bb_iload_n (n := 1) (i := 1) (zd (i := .iload_n 1) (n := 1) (by decide +kernel)) rfl rfl <|
  bb_callSI (idx := 393) (N := n_X9_isLong) (As := [.int a1]) (st := []) (zd (i := .invokestatic 393) (n := 3) (by decide +kernel)) to_X9_isLong g1543 g1544 (Nat.le_of_ble_eq_true rfl) rfl rfl hc kk
theorem w_X9_rich_4 {Q : qQ} {I : qMI} {L : qML} {R : qMR} {a1 : Int32} {a2 : Int32} {s0 : Int32} (kt : s0 = 0 → wkB l G (d + 1) n_X9_rich Q 16 [.ref 292, .int a1, .int a2, wkU, wkU, wkU, wkU] [] I L R) (kf : ¬ s0 = 0 → wkB l G (d + 1) n_X9_rich Q 7 [.ref 292, .int a1, .int a2, wkU, wkU, wkU, wkU] [] I L R) : wkB l G (d + 1) n_X9_rich Q 4 [.ref 292, .int a1, .int a2, wkU, wkU, wkU, wkU] [.int s0] I L R :=
  (fun lv hl => q_if_eq (off := 12) (tgt := 16) (zd (i := .ifCond .eq (12)) (n := 3) (by decide +kernel)) (by decide) (fun h => (kt h) lv hl) (fun h => (kf h) lv hl))
theorem w_X9_rich_7 {Q : qQ} {I : qMI} {L : qML} {R : qMR} {a1 : Int32} {a2 : Int32} {P : Int32 → qMI → qML → Prop} (hc : wkI l G d n_X9_in [.int a2, .int 0, .int 1] I L R P) (kk : ∀ y I' L', P y I' L' → wkB l G (d + 1) n_X9_rich Q 13 [.ref 292, .int a1, .int a2, wkU, wkU, wkU, wkU] [.int y] I' L' R) : wkB l G (d + 1) n_X9_rich Q 7 [.ref 292, .int a1, .int a2, wkU, wkU, wkU, wkU] [] I L R :=
  bb_iload_n (n := 2) (i := 2) (zd (i := .iload_n 2) (n := 1) (by decide +kernel)) rfl rfl <|
  bb_lift (fun _ => q_iconst (n := 0) (zd (i := .iconst (0)) (n := 1) (by decide +kernel)) rfl) <|
  bb_lift (fun _ => q_iconst (n := 1) (zd (i := .iconst (1)) (n := 1) (by decide +kernel)) rfl) <|
  bb_callSI (idx := 304) (N := n_X9_in) (As := [.int a2, .int 0, .int 1]) (st := []) (zd (i := .invokestatic 304) (n := 3) (by decide +kernel)) to_X9_in g1442 g1443 (Nat.le_of_ble_eq_true rfl) rfl rfl hc kk
theorem w_X9_rich_13 {Q : qQ} {I : qMI} {L : qML} {R : qMR} {a1 : Int32} {a2 : Int32} {s0 : Int32} (kt : ¬ s0 = 0 → wkB l G (d + 1) n_X9_rich Q 18 [.ref 292, .int a1, .int a2, wkU, wkU, wkU, wkU] [] I L R) (kf : s0 = 0 → wkB l G (d + 1) n_X9_rich Q 16 [.ref 292, .int a1, .int a2, wkU, wkU, wkU, wkU] [] I L R) : wkB l G (d + 1) n_X9_rich Q 13 [.ref 292, .int a1, .int a2, wkU, wkU, wkU, wkU] [.int s0] I L R :=
  (fun lv hl => q_if_ne (off := 5) (tgt := 18) (zd (i := .ifCond .ne (5)) (n := 3) (by decide +kernel)) (by decide) (fun h => (kt h) lv hl) (fun h => (kf h) lv hl))
theorem w_X9_rich_16 {Q : qQ} {I : qMI} {L : qML} {R : qMR} {a1 : Int32} {a2 : Int32} (hQ : Q (some (.int (-1))) 336 I L R) : wkB l G (d + 1) n_X9_rich Q 16 [.ref 292, .int a1, .int a2, wkU, wkU, wkU, wkU] [] I L R :=
  bb_lift (fun _ => q_iconst (n := -1) (zd (i := .iconst (-1)) (n := 1) (by decide +kernel)) rfl) <|
  (fun lv hl => q_iret (zd (i := .ireturn) (n := 1) (by decide +kernel)) rfl rfl (Nat.le_refl _) (Nat.le_refl _) hQ)
theorem w_X9_rich_18 {Q : qQ} {I : qMI} {L : qML} {R : qMR} {a1 : Int32} {a2 : Int32} {P : qMI → qML → Prop} (hc : wkV l G d n_X9_copies [.ref 292] I L R P) (kk : ∀ I' L', P I' L' → wkB l G (d + 1) n_X9_rich Q 22 [.ref 292, .int a1, .int a2, wkU, wkU, wkU, wkU] [] I' L' R) : wkB l G (d + 1) n_X9_rich Q 18 [.ref 292, .int a1, .int a2, wkU, wkU, wkU, wkU] [] I L R :=
  bb_aload_n (n := 0) (i := 0) (zd (i := .aload_n 0) (n := 1) (by decide +kernel)) rfl rfl <|
  bb_callVV (idx := 375) (k := 292) (ci := 9) (N := n_X9_copies) (As := []) (st := []) (zd (i := .invokevirtual 375) (n := 3) (by decide +kernel)) to_X9_copies g1445 g1447 g67 (Nat.le_of_ble_eq_true rfl) (by decide +kernel) (by decide +kernel) (by decide +kernel) rfl rfl rfl hc kk
theorem w_X9_rich_22 {Q : qQ} {I : qMI} {L : qML} {R : qMR} {a1 : Int32} {a2 : Int32} {P : qMI → qML → Prop} (hc : wkV l G d n_X9_goes [.ref 292, .int a1] I L R P) (kk : ∀ I' L', P I' L' → wkB l G (d + 1) n_X9_rich Q 27 [.ref 292, .int a1, .int a2, wkU, wkU, wkU, wkU] [] I' L' R) : wkB l G (d + 1) n_X9_rich Q 22 [.ref 292, .int a1, .int a2, wkU, wkU, wkU, wkU] [] I L R :=
  bb_aload_n (n := 0) (i := 0) (zd (i := .aload_n 0) (n := 1) (by decide +kernel)) rfl rfl <|
  bb_iload_n (n := 1) (i := 1) (zd (i := .iload_n 1) (n := 1) (by decide +kernel)) rfl rfl <|
  bb_callVV (idx := 396) (k := 292) (ci := 9) (N := n_X9_goes) (As := [.int a1]) (st := []) (zd (i := .invokevirtual 396) (n := 3) (by decide +kernel)) to_X9_goes g1546 g1548 g82 (Nat.le_of_ble_eq_true rfl) (by decide +kernel) (by decide +kernel) (by decide +kernel) rfl rfl rfl hc kk
theorem w_X9_rich_27 {Q : qQ} {I : qMI} {L : qML} {R : qMR} {a1 : Int32} {a2 : Int32} (k : wkB l G (d + 1) n_X9_rich Q 37 [.ref 292, .int a1, .int a2, .int (-2), .int (-2), .int 0, wkU] [] I L R) : wkB l G (d + 1) n_X9_rich Q 27 [.ref 292, .int a1, .int a2, wkU, wkU, wkU, wkU] [] I L R :=
  bb_lift (fun _ => q_bipush (n := -2) (zd (i := .bipush (-2)) (n := 2) (by decide +kernel)) rfl) <|
  bb_istore_n (n := 3) (i := 3) (zd (i := .istore_n 3) (n := 1) (by decide +kernel)) rfl (by decide +kernel) (wkNl_i rfl) <|
  bb_lift (fun _ => q_bipush (n := -2) (zd (i := .bipush (-2)) (n := 2) (by decide +kernel)) rfl) <|
  bb_istore (i := 4) (zd (i := .istore 4) (n := 2) (by decide +kernel)) (by decide +kernel) (wkNl_i rfl) <|
  bb_lift (fun _ => q_iconst (n := 0) (zd (i := .iconst (0)) (n := 1) (by decide +kernel)) rfl) <|
  bb_istore (i := 5) (zd (i := .istore 5) (n := 2) (by decide +kernel)) (by decide +kernel) (wkNl_i rfl) <|
  k
theorem w_X9_rich_37 {Q : qQ} {I : qMI} {L : qML} {R : qMR} (hR : wkR R) {a1 : Int32} {a2 : Int32} {a3 : Int32} {a4 : Int32} {a5 : Int32} (h1 : vp_in (I 292 18) 2) (kt : (I 304 (I 292 18).toNatClampNeg) ≤ a5 → wkB l G (d + 1) n_X9_rich Q 93 [.ref 292, .int a1, .int a2, .int a3, .int a4, .int a5, wkU] [] I L R) (kf : ¬ (I 304 (I 292 18).toNatClampNeg) ≤ a5 → wkB l G (d + 1) n_X9_rich Q 51 [.ref 292, .int a1, .int a2, .int a3, .int a4, .int a5, wkU] [] I L R) : wkB l G (d + 1) n_X9_rich Q 37 [.ref 292, .int a1, .int a2, .int a3, .int a4, .int a5, wkU] [] I L R :=
  bb_iload (i := 5) (zd (i := .iload 5) (n := 2) (by decide +kernel)) rfl <|
  bb_aload_n (n := 0) (i := 0) (zd (i := .aload_n 0) (n := 1) (by decide +kernel)) rfl rfl <|
  bb_getr (k := 292) (ci := 9) (j := 25) (idx := 52) (a := 304) (zd (i := .getfield 52) (n := 3) (by decide +kernel)) (by decide +kernel) (by decide +kernel) (by decide +kernel) (by decide +kernel) rfl g1153 (hR 25 (by decide)) <|
  bb_aload_n (n := 0) (i := 0) (zd (i := .aload_n 0) (n := 1) (by decide +kernel)) rfl rfl <|
  bb_geti (k := 292) (ci := 9) (j := 18) (idx := 230) (zd (i := .getfield 230) (n := 3) (by decide +kernel)) (by decide +kernel) (by decide +kernel) (by decide +kernel) (by decide +kernel) rfl g1146 <|
  bb_lift (fun _ => q_iald (k := 304) (zd (i := .iaload) (n := 1) (by decide +kernel)) (by decide +kernel) (by decide +kernel) h1) <|
  (fun lv hl => q_icmp_ge (off := 45) (tgt := 93) (zd (i := .if_icmp .ge (45)) (n := 3) (by decide +kernel)) (by decide) (fun h => (kt h) lv hl) (fun h => (kf h) lv hl))
theorem w_X9_rich_51 {Q : qQ} {I : qMI} {L : qML} {R : qMR} (hR : wkR R) {a1 : Int32} {a2 : Int32} {a3 : Int32} {a4 : Int32} {a5 : Int32} (h1 : vp_in (6 + a5) 97) {P : Int32 → qMI → qML → Prop} (hc : wkI l G d n_X9_lentBy [.ref 292, .int a5] I L R P) (kk : ∀ y I' L', P y I' L' → wkB l G (d + 1) n_X9_rich Q 67 [.ref 292, .int a1, .int a2, .int a3, .int a4, .int a5, wkU] [.int y, .int (I 324 (6 + a5).toNatClampNeg)] I' L' R) : wkB l G (d + 1) n_X9_rich Q 51 [.ref 292, .int a1, .int a2, .int a3, .int a4, .int a5, wkU] [] I L R :=
  bb_aload_n (n := 0) (i := 0) (zd (i := .aload_n 0) (n := 1) (by decide +kernel)) rfl rfl <|
  bb_getr (k := 292) (ci := 9) (j := 49) (idx := 113) (a := 324) (zd (i := .getfield 113) (n := 3) (by decide +kernel)) (by decide +kernel) (by decide +kernel) (by decide +kernel) (by decide +kernel) rfl g1177 (hR 49 (by decide)) <|
  bb_lift (fun _ => q_bipush (n := 6) (zd (i := .bipush (6)) (n := 2) (by decide +kernel)) rfl) <|
  bb_iload (i := 5) (zd (i := .iload 5) (n := 2) (by decide +kernel)) rfl <|
  bb_lift (fun _ => q_iadd (zd (i := .iadd) (n := 1) (by decide +kernel))) <|
  bb_lift (fun _ => q_iald (k := 324) (zd (i := .iaload) (n := 1) (by decide +kernel)) (by decide +kernel) (by decide +kernel) h1) <|
  bb_aload_n (n := 0) (i := 0) (zd (i := .aload_n 0) (n := 1) (by decide +kernel)) rfl rfl <|
  bb_iload (i := 5) (zd (i := .iload 5) (n := 2) (by decide +kernel)) rfl <|
  bb_callVI (idx := 384) (k := 292) (ci := 9) (N := n_X9_lentBy) (As := [.int a5]) (st := [.int (I 324 (6 + a5).toNatClampNeg)]) (zd (i := .invokevirtual 384) (n := 3) (by decide +kernel)) to_X9_lentBy g1495 g1497 g77 (Nat.le_of_ble_eq_true rfl) (by decide +kernel) (by decide +kernel) (by decide +kernel) rfl rfl rfl hc kk
theorem w_X9_rich_67 {Q : qQ} {I : qMI} {L : qML} {R : qMR} {a1 : Int32} {a2 : Int32} {a3 : Int32} {a4 : Int32} {a5 : Int32} {s0 : Int32} {s1 : Int32} (kt : a4 < (s0 + s1) → wkB l G (d + 1) n_X9_rich Q 80 [.ref 292, .int a1, .int a2, .int a3, .int a4, .int a5, .int (s0 + s1)] [] I L R) (kf : ¬ a4 < (s0 + s1) → wkB l G (d + 1) n_X9_rich Q 77 [.ref 292, .int a1, .int a2, .int a3, .int a4, .int a5, .int (s0 + s1)] [] I L R) : wkB l G (d + 1) n_X9_rich Q 67 [.ref 292, .int a1, .int a2, .int a3, .int a4, .int a5, wkU] [.int s1, .int s0] I L R :=
  bb_lift (fun _ => q_iadd (zd (i := .iadd) (n := 1) (by decide +kernel))) <|
  bb_istore (i := 6) (zd (i := .istore 6) (n := 2) (by decide +kernel)) (by decide +kernel) (wkNl_i rfl) <|
  bb_iload (i := 6) (zd (i := .iload 6) (n := 2) (by decide +kernel)) rfl <|
  bb_iload (i := 4) (zd (i := .iload 4) (n := 2) (by decide +kernel)) rfl <|
  (fun lv hl => q_icmp_gt (off := 6) (tgt := 80) (zd (i := .if_icmp .gt (6)) (n := 3) (by decide +kernel)) (by decide) (fun h => (kt h) lv hl) (fun h => (kf h) lv hl))
theorem w_X9_rich_77 {Q : qQ} {I : qMI} {L : qML} {R : qMR} {a1 : Int32} {a2 : Int32} {a3 : Int32} {a4 : Int32} {a5 : Int32} {a6 : Int32} (k : wkB l G (d + 1) n_X9_rich Q 87 [.ref 292, .int a1, .int a2, .int a3, .int a4, .int a5, .int a6] [] I L R) : wkB l G (d + 1) n_X9_rich Q 77 [.ref 292, .int a1, .int a2, .int a3, .int a4, .int a5, .int a6] [] I L R :=
  bb_lift (fun _ => q_goto (off := 10) (tgt := 87) (zd (i := .goto (10)) (n := 3) (by decide +kernel)) (by decide)) k
theorem w_X9_rich_80 {Q : qQ} {I : qMI} {L : qML} {R : qMR} {a1 : Int32} {a2 : Int32} {a3 : Int32} {a4 : Int32} {a5 : Int32} {a6 : Int32} (k : wkB l G (d + 1) n_X9_rich Q 87 [.ref 292, .int a1, .int a2, .int a5, .int a6, .int a5, .int a6] [] I L R) : wkB l G (d + 1) n_X9_rich Q 80 [.ref 292, .int a1, .int a2, .int a3, .int a4, .int a5, .int a6] [] I L R :=
  bb_iload (i := 5) (zd (i := .iload 5) (n := 2) (by decide +kernel)) rfl <|
  bb_istore_n (n := 3) (i := 3) (zd (i := .istore_n 3) (n := 1) (by decide +kernel)) rfl (by decide +kernel) (wkNl_i rfl) <|
  bb_iload (i := 6) (zd (i := .iload 6) (n := 2) (by decide +kernel)) rfl <|
  bb_istore (i := 4) (zd (i := .istore 4) (n := 2) (by decide +kernel)) (by decide +kernel) (wkNl_i rfl) <|
  k
theorem w_X9_rich_87 {Q : qQ} {I : qMI} {L : qML} {R : qMR} {a1 : Int32} {a2 : Int32} {a3 : Int32} {a4 : Int32} {a5 : Int32} {a6 : Int32} (k : wkB l G (d + 1) n_X9_rich Q 37 [.ref 292, .int a1, .int a2, .int a3, .int a4, .int (a5 + 1), wkU] [] I L R) : wkB l G (d + 1) n_X9_rich Q 87 [.ref 292, .int a1, .int a2, .int a3, .int a4, .int a5, .int a6] [] I L R :=
  bb_iinc (i := 5) (n := 1) (zd (i := .iinc 5 (1)) (n := 3) (by decide +kernel)) rfl rfl (by decide +kernel) (wkNl_i rfl) <|
  bb_lift (fun _ => q_goto (off := -53) (tgt := 37) (zd (i := .goto (-53)) (n := 3) (by decide +kernel)) (by decide)) (wkB_le (vs := [.ref 292, .int a1, .int a2, .int a3, .int a4, .int (a5 + 1), wkU]) (ws := [.ref 292, .int a1, .int a2, .int a3, .int a4, .int (a5 + 1), .int a6]) ⟨Or.inr rfl, Or.inr rfl, Or.inr rfl, Or.inr rfl, Or.inr rfl, Or.inr rfl, Or.inl rfl, trivial⟩ (k))
theorem w_X9_rich_93 {Q : qQ} {I : qMI} {L : qML} {R : qMR} {a1 : Int32} {a2 : Int32} {a3 : Int32} {a4 : Int32} {a5 : Int32} (kt : ¬ a2 = 0 → wkB l G (d + 1) n_X9_rich Q 101 [.ref 292, .int a1, .int a2, .int a3, .int a4, .int a5, wkU] [] I L R) (kf : a2 = 0 → wkB l G (d + 1) n_X9_rich Q 97 [.ref 292, .int a1, .int a2, .int a3, .int a4, .int a5, wkU] [] I L R) : wkB l G (d + 1) n_X9_rich Q 93 [.ref 292, .int a1, .int a2, .int a3, .int a4, .int a5, wkU] [] I L R :=
  bb_iload_n (n := 2) (i := 2) (zd (i := .iload_n 2) (n := 1) (by decide +kernel)) rfl rfl <|
  (fun lv hl => q_if_ne (off := 7) (tgt := 101) (zd (i := .ifCond .ne (7)) (n := 3) (by decide +kernel)) (by decide) (fun h => (kt h) lv hl) (fun h => (kf h) lv hl))
theorem w_X9_rich_97 {Q : qQ} {I : qMI} {L : qML} {R : qMR} {a1 : Int32} {a2 : Int32} {a3 : Int32} {a4 : Int32} {a5 : Int32} (k : wkB l G (d + 1) n_X9_rich Q 103 [.ref 292, .int a1, .int a2, .int a3, .int a4, .int a5, wkU] [.int a3] I L R) : wkB l G (d + 1) n_X9_rich Q 97 [.ref 292, .int a1, .int a2, .int a3, .int a4, .int a5, wkU] [] I L R :=
  bb_iload_n (n := 3) (i := 3) (zd (i := .iload_n 3) (n := 1) (by decide +kernel)) rfl rfl <|
  bb_lift (fun _ => q_goto (off := 5) (tgt := 103) (zd (i := .goto (5)) (n := 3) (by decide +kernel)) (by decide)) k
theorem w_X9_rich_101 {Q : qQ} {I : qMI} {L : qML} {R : qMR} {a1 : Int32} {a2 : Int32} {a3 : Int32} {a4 : Int32} {a5 : Int32} (k : wkB l G (d + 1) n_X9_rich Q 103 [.ref 292, .int a1, .int a2, .int a3, .int a4, .int a5, wkU] [.int a4] I L R) : wkB l G (d + 1) n_X9_rich Q 101 [.ref 292, .int a1, .int a2, .int a3, .int a4, .int a5, wkU] [] I L R :=
  bb_iload (i := 4) (zd (i := .iload 4) (n := 2) (by decide +kernel)) rfl <|
  k
theorem w_X9_rich_103 {Q : qQ} {I : qMI} {L : qML} {R : qMR} {a1 : Int32} {a2 : Int32} {a3 : Int32} {a4 : Int32} {a5 : Int32} {s0 : Int32} (hQ : Q (some (.int s0)) 336 I L R) : wkB l G (d + 1) n_X9_rich Q 103 [.ref 292, .int a1, .int a2, .int a3, .int a4, .int a5, wkU] [.int s0] I L R :=
  (fun lv hl => q_iret (zd (i := .ireturn) (n := 1) (by decide +kernel)) rfl rfl (Nat.le_refl _) (Nat.le_refl _) hQ)
theorem w_X9_book_0 {Q : qQ} {I : qMI} {L : qML} {R : qMR} {a1 : Int32} {a2 : Int32} {P : Int32 → qMI → qML → Prop} (hc : wkI l G d n_X9_isSeat [.ref 292, .int a1] I L R P) (kk : ∀ y I' L', P y I' L' → wkB l G (d + 1) n_X9_book Q 5 [.ref 292, .int a1, .int a2] [.int y] I' L' R) : wkB l G (d + 1) n_X9_book Q 0 [.ref 292, .int a1, .int a2] [] I L R :=
  bb_aload_n (n := 0) (i := 0) (zd (i := .aload_n 0) (n := 1) (by decide +kernel)) rfl rfl <|
  bb_iload_n (n := 1) (i := 1) (zd (i := .iload_n 1) (n := 1) (by decide +kernel)) rfl rfl <|
  bb_callVI (idx := 378) (k := 292) (ci := 9) (N := n_X9_isSeat) (As := [.int a1]) (st := []) (zd (i := .invokevirtual 378) (n := 3) (by decide +kernel)) to_X9_isSeat g1487 g1489 g75 (Nat.le_of_ble_eq_true rfl) (by decide +kernel) (by decide +kernel) (by decide +kernel) rfl rfl rfl hc kk
theorem w_X9_book_5 {Q : qQ} {I : qMI} {L : qML} {R : qMR} {a1 : Int32} {a2 : Int32} {s0 : Int32} (kt : s0 = 0 → wkB l G (d + 1) n_X9_book Q 15 [.ref 292, .int a1, .int a2] [] I L R) (kf : ¬ s0 = 0 → wkB l G (d + 1) n_X9_book Q 8 [.ref 292, .int a1, .int a2] [] I L R) : wkB l G (d + 1) n_X9_book Q 5 [.ref 292, .int a1, .int a2] [.int s0] I L R :=
  (fun lv hl => q_if_eq (off := 10) (tgt := 15) (zd (i := .ifCond .eq (10)) (n := 3) (by decide +kernel)) (by decide) (fun h => (kt h) lv hl) (fun h => (kf h) lv hl))
theorem w_X9_book_8 {Q : qQ} {I : qMI} {L : qML} {R : qMR} {a1 : Int32} {a2 : Int32} {P : Int32 → qMI → qML → Prop} (hc : wkI l G d n_X9_isLong [.int a2] I L R P) (kk : ∀ y I' L', P y I' L' → wkB l G (d + 1) n_X9_book Q 12 [.ref 292, .int a1, .int a2] [.int y] I' L' R) : wkB l G (d + 1) n_X9_book Q 8 [.ref 292, .int a1, .int a2] [] I L R :=
  bb_iload_n (n := 2) (i := 2) (zd (i := .iload_n 2) (n := 1) (by decide +kernel)) rfl rfl <|
  bb_callSI (idx := 393) (N := n_X9_isLong) (As := [.int a2]) (st := []) (zd (i := .invokestatic 393) (n := 3) (by decide +kernel)) to_X9_isLong g1543 g1544 (Nat.le_of_ble_eq_true rfl) rfl rfl hc kk
theorem w_X9_book_12 {Q : qQ} {I : qMI} {L : qML} {R : qMR} {a1 : Int32} {a2 : Int32} {s0 : Int32} (kt : ¬ s0 = 0 → wkB l G (d + 1) n_X9_book Q 17 [.ref 292, .int a1, .int a2] [] I L R) (kf : s0 = 0 → wkB l G (d + 1) n_X9_book Q 15 [.ref 292, .int a1, .int a2] [] I L R) : wkB l G (d + 1) n_X9_book Q 12 [.ref 292, .int a1, .int a2] [.int s0] I L R :=
  (fun lv hl => q_if_ne (off := 5) (tgt := 17) (zd (i := .ifCond .ne (5)) (n := 3) (by decide +kernel)) (by decide) (fun h => (kt h) lv hl) (fun h => (kf h) lv hl))
theorem w_X9_book_15 {Q : qQ} {I : qMI} {L : qML} {R : qMR} {a1 : Int32} {a2 : Int32} (hQ : Q (some (.int (-1))) 336 I L R) : wkB l G (d + 1) n_X9_book Q 15 [.ref 292, .int a1, .int a2] [] I L R :=
  bb_lift (fun _ => q_iconst (n := -1) (zd (i := .iconst (-1)) (n := 1) (by decide +kernel)) rfl) <|
  (fun lv hl => q_iret (zd (i := .ireturn) (n := 1) (by decide +kernel)) rfl rfl (Nat.le_refl _) (Nat.le_refl _) hQ)
theorem w_X9_book_17 {Q : qQ} {I : qMI} {L : qML} {R : qMR} {a1 : Int32} {a2 : Int32} {P : qMI → qML → Prop} (hc : wkV l G d n_X9_copies [.ref 292] I L R P) (kk : ∀ I' L', P I' L' → wkB l G (d + 1) n_X9_book Q 21 [.ref 292, .int a1, .int a2] [] I' L' R) : wkB l G (d + 1) n_X9_book Q 17 [.ref 292, .int a1, .int a2] [] I L R :=
  bb_aload_n (n := 0) (i := 0) (zd (i := .aload_n 0) (n := 1) (by decide +kernel)) rfl rfl <|
  bb_callVV (idx := 375) (k := 292) (ci := 9) (N := n_X9_copies) (As := []) (st := []) (zd (i := .invokevirtual 375) (n := 3) (by decide +kernel)) to_X9_copies g1445 g1447 g67 (Nat.le_of_ble_eq_true rfl) (by decide +kernel) (by decide +kernel) (by decide +kernel) rfl rfl rfl hc kk
theorem w_X9_book_21 {Q : qQ} {I : qMI} {L : qML} {R : qMR} {a1 : Int32} {a2 : Int32} {P : qMI → qML → Prop} (hc : wkV l G d n_X9_goes [.ref 292, .int a2] I L R P) (kk : ∀ I' L', P I' L' → wkB l G (d + 1) n_X9_book Q 26 [.ref 292, .int a1, .int a2] [] I' L' R) : wkB l G (d + 1) n_X9_book Q 21 [.ref 292, .int a1, .int a2] [] I L R :=
  bb_aload_n (n := 0) (i := 0) (zd (i := .aload_n 0) (n := 1) (by decide +kernel)) rfl rfl <|
  bb_iload_n (n := 2) (i := 2) (zd (i := .iload_n 2) (n := 1) (by decide +kernel)) rfl rfl <|
  bb_callVV (idx := 396) (k := 292) (ci := 9) (N := n_X9_goes) (As := [.int a2]) (st := []) (zd (i := .invokevirtual 396) (n := 3) (by decide +kernel)) to_X9_goes g1546 g1548 g82 (Nat.le_of_ble_eq_true rfl) (by decide +kernel) (by decide +kernel) (by decide +kernel) rfl rfl rfl hc kk
theorem w_X9_book_26 {Q : qQ} {I : qMI} {L : qML} {R : qMR} (hR : wkR R) {a1 : Int32} {a2 : Int32} (h1 : vp_in (6 + a1) 97) {P : Int32 → qMI → qML → Prop} (hc : wkI l G d n_X9_lentBy [.ref 292, .int a1] I L R P) (kk : ∀ y I' L', P y I' L' → wkB l G (d + 1) n_X9_book Q 40 [.ref 292, .int a1, .int a2] [.int y, .int (I 324 (6 + a1).toNatClampNeg)] I' L' R) : wkB l G (d + 1) n_X9_book Q 26 [.ref 292, .int a1, .int a2] [] I L R :=
  bb_aload_n (n := 0) (i := 0) (zd (i := .aload_n 0) (n := 1) (by decide +kernel)) rfl rfl <|
  bb_getr (k := 292) (ci := 9) (j := 49) (idx := 113) (a := 324) (zd (i := .getfield 113) (n := 3) (by decide +kernel)) (by decide +kernel) (by decide +kernel) (by decide +kernel) (by decide +kernel) rfl g1177 (hR 49 (by decide)) <|
  bb_lift (fun _ => q_bipush (n := 6) (zd (i := .bipush (6)) (n := 2) (by decide +kernel)) rfl) <|
  bb_iload_n (n := 1) (i := 1) (zd (i := .iload_n 1) (n := 1) (by decide +kernel)) rfl rfl <|
  bb_lift (fun _ => q_iadd (zd (i := .iadd) (n := 1) (by decide +kernel))) <|
  bb_lift (fun _ => q_iald (k := 324) (zd (i := .iaload) (n := 1) (by decide +kernel)) (by decide +kernel) (by decide +kernel) h1) <|
  bb_aload_n (n := 0) (i := 0) (zd (i := .aload_n 0) (n := 1) (by decide +kernel)) rfl rfl <|
  bb_iload_n (n := 1) (i := 1) (zd (i := .iload_n 1) (n := 1) (by decide +kernel)) rfl rfl <|
  bb_callVI (idx := 384) (k := 292) (ci := 9) (N := n_X9_lentBy) (As := [.int a1]) (st := [.int (I 324 (6 + a1).toNatClampNeg)]) (zd (i := .invokevirtual 384) (n := 3) (by decide +kernel)) to_X9_lentBy g1495 g1497 g77 (Nat.le_of_ble_eq_true rfl) (by decide +kernel) (by decide +kernel) (by decide +kernel) rfl rfl rfl hc kk
theorem w_X9_book_40 {Q : qQ} {I : qMI} {L : qML} {R : qMR} {a1 : Int32} {a2 : Int32} {s0 : Int32} {s1 : Int32} (hQ : Q (some (.int (s0 + s1))) 336 I L R) : wkB l G (d + 1) n_X9_book Q 40 [.ref 292, .int a1, .int a2] [.int s1, .int s0] I L R :=
  bb_lift (fun _ => q_iadd (zd (i := .iadd) (n := 1) (by decide +kernel))) <|
  (fun lv hl => q_iret (zd (i := .ireturn) (n := 1) (by decide +kernel)) rfl rfl (Nat.le_refl _) (Nat.le_refl _) hQ)
theorem w_X9_tries_0 {Q : qQ} {I : qMI} {L : qML} {R : qMR} (hR : wkR R) {a1 : Int32} {a2 : Int32} {a3 : Int32} {a4 : Int32} (h1 : vp_in a2 20) (kt : a1 ≤ 1 → wkB l G (d + 1) n_X9_tries Q 20 [.ref 292, .int a1, .int a2, .int a3, .int a4, wkU] [.int (I 326 a2.toNatClampNeg)] I L R) (kf : ¬ a1 ≤ 1 → wkB l G (d + 1) n_X9_tries Q 11 [.ref 292, .int a1, .int a2, .int a3, .int a4, wkU] [.int (I 326 a2.toNatClampNeg)] I L R) : wkB l G (d + 1) n_X9_tries Q 0 [.ref 292, .int a1, .int a2, .int a3, .int a4, wkU] [] I L R :=
  bb_aload_n (n := 0) (i := 0) (zd (i := .aload_n 0) (n := 1) (by decide +kernel)) rfl rfl <|
  bb_getr (k := 292) (ci := 9) (j := 53) (idx := 119) (a := 326) (zd (i := .getfield 119) (n := 3) (by decide +kernel)) (by decide +kernel) (by decide +kernel) (by decide +kernel) (by decide +kernel) rfl g1181 (hR 53 (by decide)) <|
  bb_iload_n (n := 2) (i := 2) (zd (i := .iload_n 2) (n := 1) (by decide +kernel)) rfl rfl <|
  bb_lift (fun _ => q_iald (k := 326) (zd (i := .iaload) (n := 1) (by decide +kernel)) (by decide +kernel) (by decide +kernel) h1) <|
  bb_iload_n (n := 1) (i := 1) (zd (i := .iload_n 1) (n := 1) (by decide +kernel)) rfl rfl <|
  bb_lift (fun _ => q_iconst (n := 1) (zd (i := .iconst (1)) (n := 1) (by decide +kernel)) rfl) <|
  (fun lv hl => q_icmp_le (off := 12) (tgt := 20) (zd (i := .if_icmp .le (12)) (n := 3) (by decide +kernel)) (by decide) (fun h => (kt h) lv hl) (fun h => (kf h) lv hl))
theorem w_X9_tries_11 {Q : qQ} {I : qMI} {L : qML} {R : qMR} (hR : wkR R) {a1 : Int32} {a2 : Int32} {a3 : Int32} {a4 : Int32} {s0 : Int32} (h1 : vp_in a3 20) (k : wkB l G (d + 1) n_X9_tries Q 21 [.ref 292, .int a1, .int a2, .int a3, .int a4, wkU] [.int (I 326 a3.toNatClampNeg), .int s0] I L R) : wkB l G (d + 1) n_X9_tries Q 11 [.ref 292, .int a1, .int a2, .int a3, .int a4, wkU] [.int s0] I L R :=
  bb_aload_n (n := 0) (i := 0) (zd (i := .aload_n 0) (n := 1) (by decide +kernel)) rfl rfl <|
  bb_getr (k := 292) (ci := 9) (j := 53) (idx := 119) (a := 326) (zd (i := .getfield 119) (n := 3) (by decide +kernel)) (by decide +kernel) (by decide +kernel) (by decide +kernel) (by decide +kernel) rfl g1181 (hR 53 (by decide)) <|
  bb_iload_n (n := 3) (i := 3) (zd (i := .iload_n 3) (n := 1) (by decide +kernel)) rfl rfl <|
  bb_lift (fun _ => q_iald (k := 326) (zd (i := .iaload) (n := 1) (by decide +kernel)) (by decide +kernel) (by decide +kernel) h1) <|
  bb_lift (fun _ => q_goto (off := 4) (tgt := 21) (zd (i := .goto (4)) (n := 3) (by decide +kernel)) (by decide)) k
theorem w_X9_tries_20 {Q : qQ} {I : qMI} {L : qML} {R : qMR} {a1 : Int32} {a2 : Int32} {a3 : Int32} {a4 : Int32} {s0 : Int32} (k : wkB l G (d + 1) n_X9_tries Q 21 [.ref 292, .int a1, .int a2, .int a3, .int a4, wkU] [.int 0, .int s0] I L R) : wkB l G (d + 1) n_X9_tries Q 20 [.ref 292, .int a1, .int a2, .int a3, .int a4, wkU] [.int s0] I L R :=
  bb_lift (fun _ => q_iconst (n := 0) (zd (i := .iconst (0)) (n := 1) (by decide +kernel)) rfl) <|
  k
theorem w_X9_tries_21 {Q : qQ} {I : qMI} {L : qML} {R : qMR} {a1 : Int32} {a2 : Int32} {a3 : Int32} {a4 : Int32} {s0 : Int32} {s1 : Int32} (kt : a1 ≤ 2 → wkB l G (d + 1) n_X9_tries Q 37 [.ref 292, .int a1, .int a2, .int a3, .int a4, wkU] [.int (s0 ||| s1)] I L R) (kf : ¬ a1 ≤ 2 → wkB l G (d + 1) n_X9_tries Q 27 [.ref 292, .int a1, .int a2, .int a3, .int a4, wkU] [.int (s0 ||| s1)] I L R) : wkB l G (d + 1) n_X9_tries Q 21 [.ref 292, .int a1, .int a2, .int a3, .int a4, wkU] [.int s1, .int s0] I L R :=
  bb_lift (fun _ => q_ior (zd (i := .ior) (n := 1) (by decide +kernel))) <|
  bb_iload_n (n := 1) (i := 1) (zd (i := .iload_n 1) (n := 1) (by decide +kernel)) rfl rfl <|
  bb_lift (fun _ => q_iconst (n := 2) (zd (i := .iconst (2)) (n := 1) (by decide +kernel)) rfl) <|
  (fun lv hl => q_icmp_le (off := 13) (tgt := 37) (zd (i := .if_icmp .le (13)) (n := 3) (by decide +kernel)) (by decide) (fun h => (kt h) lv hl) (fun h => (kf h) lv hl))
theorem w_X9_tries_27 {Q : qQ} {I : qMI} {L : qML} {R : qMR} (hR : wkR R) {a1 : Int32} {a2 : Int32} {a3 : Int32} {a4 : Int32} {s0 : Int32} (h1 : vp_in a4 20) (k : wkB l G (d + 1) n_X9_tries Q 38 [.ref 292, .int a1, .int a2, .int a3, .int a4, wkU] [.int (I 326 a4.toNatClampNeg), .int s0] I L R) : wkB l G (d + 1) n_X9_tries Q 27 [.ref 292, .int a1, .int a2, .int a3, .int a4, wkU] [.int s0] I L R :=
  bb_aload_n (n := 0) (i := 0) (zd (i := .aload_n 0) (n := 1) (by decide +kernel)) rfl rfl <|
  bb_getr (k := 292) (ci := 9) (j := 53) (idx := 119) (a := 326) (zd (i := .getfield 119) (n := 3) (by decide +kernel)) (by decide +kernel) (by decide +kernel) (by decide +kernel) (by decide +kernel) rfl g1181 (hR 53 (by decide)) <|
  bb_iload (i := 4) (zd (i := .iload 4) (n := 2) (by decide +kernel)) rfl <|
  bb_lift (fun _ => q_iald (k := 326) (zd (i := .iaload) (n := 1) (by decide +kernel)) (by decide +kernel) (by decide +kernel) h1) <|
  bb_lift (fun _ => q_goto (off := 4) (tgt := 38) (zd (i := .goto (4)) (n := 3) (by decide +kernel)) (by decide)) k
theorem w_X9_tries_37 {Q : qQ} {I : qMI} {L : qML} {R : qMR} {a1 : Int32} {a2 : Int32} {a3 : Int32} {a4 : Int32} {s0 : Int32} (k : wkB l G (d + 1) n_X9_tries Q 38 [.ref 292, .int a1, .int a2, .int a3, .int a4, wkU] [.int 0, .int s0] I L R) : wkB l G (d + 1) n_X9_tries Q 37 [.ref 292, .int a1, .int a2, .int a3, .int a4, wkU] [.int s0] I L R :=
  bb_lift (fun _ => q_iconst (n := 0) (zd (i := .iconst (0)) (n := 1) (by decide +kernel)) rfl) <|
  k
theorem w_X9_tries_38 {Q : qQ} {I : qMI} {L : qML} {R : qMR} {a1 : Int32} {a2 : Int32} {a3 : Int32} {a4 : Int32} {s0 : Int32} {s1 : Int32} {P : Int32 → qMI → qML → Prop} (hc : wkI l G d n_X9_bits [.int (s0 ||| s1)] I L R P) (kk : ∀ y I' L', P y I' L' → wkB l G (d + 1) n_X9_tries Q 46 [.ref 292, .int a1, .int a2, .int a3, .int a4, .int (s0 ||| s1)] [.int y] I' L' R) : wkB l G (d + 1) n_X9_tries Q 38 [.ref 292, .int a1, .int a2, .int a3, .int a4, wkU] [.int s1, .int s0] I L R :=
  bb_lift (fun _ => q_ior (zd (i := .ior) (n := 1) (by decide +kernel))) <|
  bb_istore (i := 5) (zd (i := .istore 5) (n := 2) (by decide +kernel)) (by decide +kernel) (wkNl_i rfl) <|
  bb_iload (i := 5) (zd (i := .iload 5) (n := 2) (by decide +kernel)) rfl <|
  bb_callSI (idx := 412) (N := n_X9_bits) (As := [.int (s0 ||| s1)]) (st := []) (zd (i := .invokestatic 412) (n := 3) (by decide +kernel)) to_X9_bits g1633 g1634 (Nat.le_of_ble_eq_true rfl) rfl rfl hc kk
theorem w_X9_tries_46 {Q : qQ} {I : qMI} {L : qML} {R : qMR} {a1 : Int32} {a2 : Int32} {a3 : Int32} {a4 : Int32} {a5 : Int32} {s0 : Int32} (kt : (I 292 55) < s0 → wkB l G (d + 1) n_X9_tries Q 54 [.ref 292, .int a1, .int a2, .int a3, .int a4, .int a5] [] I L R) (kf : ¬ (I 292 55) < s0 → wkB l G (d + 1) n_X9_tries Q 53 [.ref 292, .int a1, .int a2, .int a3, .int a4, .int a5] [] I L R) : wkB l G (d + 1) n_X9_tries Q 46 [.ref 292, .int a1, .int a2, .int a3, .int a4, .int a5] [.int s0] I L R :=
  bb_aload_n (n := 0) (i := 0) (zd (i := .aload_n 0) (n := 1) (by decide +kernel)) rfl rfl <|
  bb_geti (k := 292) (ci := 9) (j := 55) (idx := 415) (zd (i := .getfield 415) (n := 3) (by decide +kernel)) (by decide +kernel) (by decide +kernel) (by decide +kernel) (by decide +kernel) rfl g1183 <|
  (fun lv hl => q_icmp_gt (off := 4) (tgt := 54) (zd (i := .if_icmp .gt (4)) (n := 3) (by decide +kernel)) (by decide) (fun h => (kt h) lv hl) (fun h => (kf h) lv hl))
theorem w_X9_tries_53 {Q : qQ} {I : qMI} {L : qML} {R : qMR} {a1 : Int32} {a2 : Int32} {a3 : Int32} {a4 : Int32} {a5 : Int32} (hQ : Q none 336 I L R) : wkB l G (d + 1) n_X9_tries Q 53 [.ref 292, .int a1, .int a2, .int a3, .int a4, .int a5] [] I L R :=
  (fun lv hl => q_vret (zd (i := .return_) (n := 1) (by decide +kernel)) rfl (Nat.le_refl _) (Nat.le_refl _) hQ)
theorem w_X9_tries_54 {Q : qQ} {I : qMI} {L : qML} {R : qMR} {a1 : Int32} {a2 : Int32} {a3 : Int32} {a4 : Int32} {a5 : Int32} {P : Int32 → qMI → qML → Prop} (hc : wkI l G d n_X9_bits [.int a5] I L R P) (kk : ∀ y I' L', P y I' L' → wkB l G (d + 1) n_X9_tries Q 60 [.ref 292, .int a1, .int a2, .int a3, .int a4, .int a5] [.int y, .ref 292] I' L' R) : wkB l G (d + 1) n_X9_tries Q 54 [.ref 292, .int a1, .int a2, .int a3, .int a4, .int a5] [] I L R :=
  bb_aload_n (n := 0) (i := 0) (zd (i := .aload_n 0) (n := 1) (by decide +kernel)) rfl rfl <|
  bb_iload (i := 5) (zd (i := .iload 5) (n := 2) (by decide +kernel)) rfl <|
  bb_callSI (idx := 412) (N := n_X9_bits) (As := [.int a5]) (st := [.ref 292]) (zd (i := .invokestatic 412) (n := 3) (by decide +kernel)) to_X9_bits g1633 g1634 (Nat.le_of_ble_eq_true rfl) rfl rfl hc kk
theorem w_X9_tries_60 {Q : qQ} {I : qMI} {L : qML} {R : qMR} (hR : wkR R) {a1 : Int32} {a2 : Int32} {a3 : Int32} {a4 : Int32} {a5 : Int32} {s1 : Int32} (h1 : vp_in 0 3) (h2 : vp_in 1 3) (h3 : vp_in 2 3) (hQ : Q none 336 (qUp (qUp (qUp (qUp I 292 55 s1) 327 (0 : Int32).toNatClampNeg a2) 327 (1 : Int32).toNatClampNeg a3) 327 (2 : Int32).toNatClampNeg a4) L R) : wkB l G (d + 1) n_X9_tries Q 60 [.ref 292, .int a1, .int a2, .int a3, .int a4, .int a5] [.int s1, .ref 292] I L R :=
  bb_puti (k := 292) (ci := 9) (j := 55) (idx := 415) (zd (i := .putfield 415) (n := 3) (by decide +kernel)) (by decide +kernel) (by decide +kernel) (by decide +kernel) (by decide +kernel) g1183 rfl rfl <|
  bb_aload_n (n := 0) (i := 0) (zd (i := .aload_n 0) (n := 1) (by decide +kernel)) rfl rfl <|
  bb_getr (k := 292) (ci := 9) (j := 54) (idx := 122) (a := 327) (zd (i := .getfield 122) (n := 3) (by decide +kernel)) (by decide +kernel) (by decide +kernel) (by decide +kernel) (by decide +kernel) rfl g1182 (hR 54 (by decide)) <|
  bb_lift (fun _ => q_iconst (n := 0) (zd (i := .iconst (0)) (n := 1) (by decide +kernel)) rfl) <|
  bb_iload_n (n := 2) (i := 2) (zd (i := .iload_n 2) (n := 1) (by decide +kernel)) rfl rfl <|
  bb_lift (fun _ => q_iast (k := 327) (zd (i := .iastore) (n := 1) (by decide +kernel)) (by decide +kernel) (by decide +kernel) h1) <|
  bb_aload_n (n := 0) (i := 0) (zd (i := .aload_n 0) (n := 1) (by decide +kernel)) rfl rfl <|
  bb_getr (k := 292) (ci := 9) (j := 54) (idx := 122) (a := 327) (zd (i := .getfield 122) (n := 3) (by decide +kernel)) (by decide +kernel) (by decide +kernel) (by decide +kernel) (by decide +kernel) rfl g1182 (hR 54 (by decide)) <|
  bb_lift (fun _ => q_iconst (n := 1) (zd (i := .iconst (1)) (n := 1) (by decide +kernel)) rfl) <|
  bb_iload_n (n := 3) (i := 3) (zd (i := .iload_n 3) (n := 1) (by decide +kernel)) rfl rfl <|
  bb_lift (fun _ => q_iast (k := 327) (zd (i := .iastore) (n := 1) (by decide +kernel)) (by decide +kernel) (by decide +kernel) h2) <|
  bb_aload_n (n := 0) (i := 0) (zd (i := .aload_n 0) (n := 1) (by decide +kernel)) rfl rfl <|
  bb_getr (k := 292) (ci := 9) (j := 54) (idx := 122) (a := 327) (zd (i := .getfield 122) (n := 3) (by decide +kernel)) (by decide +kernel) (by decide +kernel) (by decide +kernel) (by decide +kernel) rfl g1182 (hR 54 (by decide)) <|
  bb_lift (fun _ => q_iconst (n := 2) (zd (i := .iconst (2)) (n := 1) (by decide +kernel)) rfl) <|
  bb_iload (i := 4) (zd (i := .iload 4) (n := 2) (by decide +kernel)) rfl <|
  bb_lift (fun _ => q_iast (k := 327) (zd (i := .iastore) (n := 1) (by decide +kernel)) (by decide +kernel) (by decide +kernel) h3) <|
  (fun lv hl => q_vret (zd (i := .return_) (n := 1) (by decide +kernel)) rfl (Nat.le_refl _) (Nat.le_refl _) hQ)
theorem w_X9_worth_0 {Q : qQ} {I : qMI} {L : qML} {R : qMR} {a1 : Int32} {a2 : Int32} {a3 : Int32} {a4 : Int32} {P : Int32 → qMI → qML → Prop} (hc : wkI l G d n_X9_isSeat [.ref 292, .int a1] I L R P) (kk : ∀ y I' L', P y I' L' → wkB l G (d + 1) n_X9_worth Q 5 [.ref 292, .int a1, .int a2, .int a3, .int a4, wkU, wkU, wkU, wkU, wkU] [.int y] I' L' R) : wkB l G (d + 1) n_X9_worth Q 0 [.ref 292, .int a1, .int a2, .int a3, .int a4, wkU, wkU, wkU, wkU, wkU] [] I L R :=
  bb_aload_n (n := 0) (i := 0) (zd (i := .aload_n 0) (n := 1) (by decide +kernel)) rfl rfl <|
  bb_iload_n (n := 1) (i := 1) (zd (i := .iload_n 1) (n := 1) (by decide +kernel)) rfl rfl <|
  bb_callVI (idx := 378) (k := 292) (ci := 9) (N := n_X9_isSeat) (As := [.int a1]) (st := []) (zd (i := .invokevirtual 378) (n := 3) (by decide +kernel)) to_X9_isSeat g1487 g1489 g75 (Nat.le_of_ble_eq_true rfl) (by decide +kernel) (by decide +kernel) (by decide +kernel) rfl rfl rfl hc kk
theorem w_X9_worth_5 {Q : qQ} {I : qMI} {L : qML} {R : qMR} {a1 : Int32} {a2 : Int32} {a3 : Int32} {a4 : Int32} {s0 : Int32} (kt : s0 = 0 → wkB l G (d + 1) n_X9_worth Q 35 [.ref 292, .int a1, .int a2, .int a3, .int a4, wkU, wkU, wkU, wkU, wkU] [] I L R) (kf : ¬ s0 = 0 → wkB l G (d + 1) n_X9_worth Q 8 [.ref 292, .int a1, .int a2, .int a3, .int a4, wkU, wkU, wkU, wkU, wkU] [] I L R) : wkB l G (d + 1) n_X9_worth Q 5 [.ref 292, .int a1, .int a2, .int a3, .int a4, wkU, wkU, wkU, wkU, wkU] [.int s0] I L R :=
  (fun lv hl => q_if_eq (off := 30) (tgt := 35) (zd (i := .ifCond .eq (30)) (n := 3) (by decide +kernel)) (by decide) (fun h => (kt h) lv hl) (fun h => (kf h) lv hl))
theorem w_X9_worth_8 {Q : qQ} {I : qMI} {L : qML} {R : qMR} {a1 : Int32} {a2 : Int32} {a3 : Int32} {a4 : Int32} {P : Int32 → qMI → qML → Prop} (hc : wkI l G d n_X9_isThing [.ref 292, .int a2] I L R P) (kk : ∀ y I' L', P y I' L' → wkB l G (d + 1) n_X9_worth Q 13 [.ref 292, .int a1, .int a2, .int a3, .int a4, wkU, wkU, wkU, wkU, wkU] [.int y] I' L' R) : wkB l G (d + 1) n_X9_worth Q 8 [.ref 292, .int a1, .int a2, .int a3, .int a4, wkU, wkU, wkU, wkU, wkU] [] I L R :=
  bb_aload_n (n := 0) (i := 0) (zd (i := .aload_n 0) (n := 1) (by decide +kernel)) rfl rfl <|
  bb_iload_n (n := 2) (i := 2) (zd (i := .iload_n 2) (n := 1) (by decide +kernel)) rfl rfl <|
  bb_callVI (idx := 372) (k := 292) (ci := 9) (N := n_X9_isThing) (As := [.int a2]) (st := []) (zd (i := .invokevirtual 372) (n := 3) (by decide +kernel)) to_X9_isThing g1438 g1440 g66 (Nat.le_of_ble_eq_true rfl) (by decide +kernel) (by decide +kernel) (by decide +kernel) rfl rfl rfl hc kk
theorem w_X9_worth_13 {Q : qQ} {I : qMI} {L : qML} {R : qMR} {a1 : Int32} {a2 : Int32} {a3 : Int32} {a4 : Int32} {s0 : Int32} (kt : s0 = 0 → wkB l G (d + 1) n_X9_worth Q 35 [.ref 292, .int a1, .int a2, .int a3, .int a4, wkU, wkU, wkU, wkU, wkU] [] I L R) (kf : ¬ s0 = 0 → wkB l G (d + 1) n_X9_worth Q 16 [.ref 292, .int a1, .int a2, .int a3, .int a4, wkU, wkU, wkU, wkU, wkU] [] I L R) : wkB l G (d + 1) n_X9_worth Q 13 [.ref 292, .int a1, .int a2, .int a3, .int a4, wkU, wkU, wkU, wkU, wkU] [.int s0] I L R :=
  (fun lv hl => q_if_eq (off := 22) (tgt := 35) (zd (i := .ifCond .eq (22)) (n := 3) (by decide +kernel)) (by decide) (fun h => (kt h) lv hl) (fun h => (kf h) lv hl))
theorem w_X9_worth_16 {Q : qQ} {I : qMI} {L : qML} {R : qMR} {a1 : Int32} {a2 : Int32} {a3 : Int32} {a4 : Int32} {P : Int32 → qMI → qML → Prop} (hc : wkI l G d n_X9_in [.int a3, .int 1, .int 999] I L R P) (kk : ∀ y I' L', P y I' L' → wkB l G (d + 1) n_X9_worth Q 24 [.ref 292, .int a1, .int a2, .int a3, .int a4, wkU, wkU, wkU, wkU, wkU] [.int y] I' L' R) : wkB l G (d + 1) n_X9_worth Q 16 [.ref 292, .int a1, .int a2, .int a3, .int a4, wkU, wkU, wkU, wkU, wkU] [] I L R :=
  bb_iload_n (n := 3) (i := 3) (zd (i := .iload_n 3) (n := 1) (by decide +kernel)) rfl rfl <|
  bb_lift (fun _ => q_iconst (n := 1) (zd (i := .iconst (1)) (n := 1) (by decide +kernel)) rfl) <|
  bb_lift (fun _ => q_sipush (n := 999) (zd (i := .sipush (999)) (n := 3) (by decide +kernel)) rfl) <|
  bb_callSI (idx := 304) (N := n_X9_in) (As := [.int a3, .int 1, .int 999]) (st := []) (zd (i := .invokestatic 304) (n := 3) (by decide +kernel)) to_X9_in g1442 g1443 (Nat.le_of_ble_eq_true rfl) rfl rfl hc kk
theorem w_X9_worth_24 {Q : qQ} {I : qMI} {L : qML} {R : qMR} {a1 : Int32} {a2 : Int32} {a3 : Int32} {a4 : Int32} {s0 : Int32} (kt : s0 = 0 → wkB l G (d + 1) n_X9_worth Q 35 [.ref 292, .int a1, .int a2, .int a3, .int a4, wkU, wkU, wkU, wkU, wkU] [] I L R) (kf : ¬ s0 = 0 → wkB l G (d + 1) n_X9_worth Q 27 [.ref 292, .int a1, .int a2, .int a3, .int a4, wkU, wkU, wkU, wkU, wkU] [] I L R) : wkB l G (d + 1) n_X9_worth Q 24 [.ref 292, .int a1, .int a2, .int a3, .int a4, wkU, wkU, wkU, wkU, wkU] [.int s0] I L R :=
  (fun lv hl => q_if_eq (off := 11) (tgt := 35) (zd (i := .ifCond .eq (11)) (n := 3) (by decide +kernel)) (by decide) (fun h => (kt h) lv hl) (fun h => (kf h) lv hl))
theorem w_X9_worth_27 {Q : qQ} {I : qMI} {L : qML} {R : qMR} {a1 : Int32} {a2 : Int32} {a3 : Int32} {a4 : Int32} {P : Int32 → qMI → qML → Prop} (hc : wkI l G d n_X9_isSome [.int a4] I L R P) (kk : ∀ y I' L', P y I' L' → wkB l G (d + 1) n_X9_worth Q 32 [.ref 292, .int a1, .int a2, .int a3, .int a4, wkU, wkU, wkU, wkU, wkU] [.int y] I' L' R) : wkB l G (d + 1) n_X9_worth Q 27 [.ref 292, .int a1, .int a2, .int a3, .int a4, wkU, wkU, wkU, wkU, wkU] [] I L R :=
  bb_iload (i := 4) (zd (i := .iload 4) (n := 2) (by decide +kernel)) rfl <|
  bb_callSI (idx := 406) (N := n_X9_isSome) (As := [.int a4]) (st := []) (zd (i := .invokestatic 406) (n := 3) (by decide +kernel)) to_X9_isSome g1598 g1599 (Nat.le_of_ble_eq_true rfl) rfl rfl hc kk
theorem w_X9_worth_32 {Q : qQ} {I : qMI} {L : qML} {R : qMR} {a1 : Int32} {a2 : Int32} {a3 : Int32} {a4 : Int32} {s0 : Int32} (kt : ¬ s0 = 0 → wkB l G (d + 1) n_X9_worth Q 39 [.ref 292, .int a1, .int a2, .int a3, .int a4, wkU, wkU, wkU, wkU, wkU] [] I L R) (kf : s0 = 0 → wkB l G (d + 1) n_X9_worth Q 35 [.ref 292, .int a1, .int a2, .int a3, .int a4, wkU, wkU, wkU, wkU, wkU] [] I L R) : wkB l G (d + 1) n_X9_worth Q 32 [.ref 292, .int a1, .int a2, .int a3, .int a4, wkU, wkU, wkU, wkU, wkU] [.int s0] I L R :=
  (fun lv hl => q_if_ne (off := 7) (tgt := 39) (zd (i := .ifCond .ne (7)) (n := 3) (by decide +kernel)) (by decide) (fun h => (kt h) lv hl) (fun h => (kf h) lv hl))
theorem w_X9_worth_35 {Q : qQ} {I : qMI} {L : qML} {R : qMR} {a1 : Int32} {a2 : Int32} {a3 : Int32} {a4 : Int32} (hQ : Q (some (.int (-100000))) 336 I L R) : wkB l G (d + 1) n_X9_worth Q 35 [.ref 292, .int a1, .int a2, .int a3, .int a4, wkU, wkU, wkU, wkU, wkU] [] I L R :=
  bb_lift (fun _ => q_ldcw (n := 424) (zd (i := .ldc_w 424) (n := 3) (by decide +kernel)) g1640) <|
  (fun lv hl => q_iret (zd (i := .ireturn) (n := 1) (by decide +kernel)) rfl rfl (Nat.le_refl _) (Nat.le_refl _) hQ)
theorem w_X9_worth_39 {Q : qQ} {I : qMI} {L : qML} {R : qMR} {a1 : Int32} {a2 : Int32} {a3 : Int32} {a4 : Int32} (k : wkB l G (d + 1) n_X9_worth Q 52 [.ref 292, .int a1, .int a2, .int a3, .int a4, .int a3, .int 0, .int (-a3), .int 0, wkU] [] I L R) : wkB l G (d + 1) n_X9_worth Q 39 [.ref 292, .int a1, .int a2, .int a3, .int a4, wkU, wkU, wkU, wkU, wkU] [] I L R :=
  bb_iload_n (n := 3) (i := 3) (zd (i := .iload_n 3) (n := 1) (by decide +kernel)) rfl rfl <|
  bb_istore (i := 5) (zd (i := .istore 5) (n := 2) (by decide +kernel)) (by decide +kernel) (wkNl_i rfl) <|
  bb_lift (fun _ => q_iconst (n := 0) (zd (i := .iconst (0)) (n := 1) (by decide +kernel)) rfl) <|
  bb_istore (i := 6) (zd (i := .istore 6) (n := 2) (by decide +kernel)) (by decide +kernel) (wkNl_i rfl) <|
  bb_iload_n (n := 3) (i := 3) (zd (i := .iload_n 3) (n := 1) (by decide +kernel)) rfl rfl <|
  bb_lift (fun _ => q_ineg (zd (i := .ineg) (n := 1) (by decide +kernel))) <|
  bb_istore (i := 7) (zd (i := .istore 7) (n := 2) (by decide +kernel)) (by decide +kernel) (wkNl_i rfl) <|
  bb_lift (fun _ => q_iconst (n := 0) (zd (i := .iconst (0)) (n := 1) (by decide +kernel)) rfl) <|
  bb_istore (i := 8) (zd (i := .istore 8) (n := 2) (by decide +kernel)) (by decide +kernel) (wkNl_i rfl) <|
  k
theorem w_X9_worth_52 {Q : qQ} {I : qMI} {L : qML} {R : qMR} {a1 : Int32} {a2 : Int32} {a3 : Int32} {a4 : Int32} {a5 : Int32} {a6 : Int32} {a7 : Int32} {a8 : Int32} (kt : a4 ≤ a8 → wkB l G (d + 1) n_X9_worth Q 155 [.ref 292, .int a1, .int a2, .int a3, .int a4, .int a5, .int a6, .int a7, .int a8, wkU] [] I L R) (kf : ¬ a4 ≤ a8 → wkB l G (d + 1) n_X9_worth Q 59 [.ref 292, .int a1, .int a2, .int a3, .int a4, .int a5, .int a6, .int a7, .int a8, wkU] [] I L R) : wkB l G (d + 1) n_X9_worth Q 52 [.ref 292, .int a1, .int a2, .int a3, .int a4, .int a5, .int a6, .int a7, .int a8, wkU] [] I L R :=
  bb_iload (i := 8) (zd (i := .iload 8) (n := 2) (by decide +kernel)) rfl <|
  bb_iload (i := 4) (zd (i := .iload 4) (n := 2) (by decide +kernel)) rfl <|
  (fun lv hl => q_icmp_ge (off := 99) (tgt := 155) (zd (i := .if_icmp .ge (99)) (n := 3) (by decide +kernel)) (by decide) (fun h => (kt h) lv hl) (fun h => (kf h) lv hl))
theorem w_X9_worth_59 {Q : qQ} {I : qMI} {L : qML} {R : qMR} {a1 : Int32} {a2 : Int32} {a3 : Int32} {a4 : Int32} {a5 : Int32} {a6 : Int32} {a7 : Int32} {a8 : Int32} (kt : a5 ≤ 0 → wkB l G (d + 1) n_X9_worth Q 155 [.ref 292, .int a1, .int a2, .int a3, .int a4, .int a5, .int a6, .int a7, .int a8, wkU] [] I L R) (kf : ¬ a5 ≤ 0 → wkB l G (d + 1) n_X9_worth Q 64 [.ref 292, .int a1, .int a2, .int a3, .int a4, .int a5, .int a6, .int a7, .int a8, wkU] [] I L R) : wkB l G (d + 1) n_X9_worth Q 59 [.ref 292, .int a1, .int a2, .int a3, .int a4, .int a5, .int a6, .int a7, .int a8, wkU] [] I L R :=
  bb_iload (i := 5) (zd (i := .iload 5) (n := 2) (by decide +kernel)) rfl <|
  (fun lv hl => q_if_le (off := 94) (tgt := 155) (zd (i := .ifCond .le (94)) (n := 3) (by decide +kernel)) (by decide) (fun h => (kt h) lv hl) (fun h => (kf h) lv hl))
theorem w_X9_worth_64 {Q : qQ} {I : qMI} {L : qML} {R : qMR} (hR : wkR R) {a1 : Int32} {a2 : Int32} {a3 : Int32} {a4 : Int32} {a5 : Int32} {a6 : Int32} {a7 : Int32} {a8 : Int32} (h1 : vp_in 96 97) (h2 : vp_in a1 97) {P : Int32 → qMI → qML → Prop} (hc : wkI l G d n_X9_sees [.ref 292, .int (I 323 a1.toNatClampNeg), .int a2, .int ((I 323 (96 : Int32).toNatClampNeg) + a8)] I L R P) (kk : ∀ y I' L', P y I' L' → wkB l G (d + 1) n_X9_worth Q 89 [.ref 292, .int a1, .int a2, .int a3, .int a4, .int a5, .int a6, .int a7, .int a8, .int ((I 323 (96 : Int32).toNatClampNeg) + a8)] [.int y] I' L' R) : wkB l G (d + 1) n_X9_worth Q 64 [.ref 292, .int a1, .int a2, .int a3, .int a4, .int a5, .int a6, .int a7, .int a8, wkU] [] I L R :=
  bb_aload_n (n := 0) (i := 0) (zd (i := .aload_n 0) (n := 1) (by decide +kernel)) rfl rfl <|
  bb_getr (k := 292) (ci := 9) (j := 48) (idx := 110) (a := 323) (zd (i := .getfield 110) (n := 3) (by decide +kernel)) (by decide +kernel) (by decide +kernel) (by decide +kernel) (by decide +kernel) rfl g1176 (hR 48 (by decide)) <|
  bb_lift (fun _ => q_bipush (n := 96) (zd (i := .bipush (96)) (n := 2) (by decide +kernel)) rfl) <|
  bb_lift (fun _ => q_iald (k := 323) (zd (i := .iaload) (n := 1) (by decide +kernel)) (by decide +kernel) (by decide +kernel) h1) <|
  bb_iload (i := 8) (zd (i := .iload 8) (n := 2) (by decide +kernel)) rfl <|
  bb_lift (fun _ => q_iadd (zd (i := .iadd) (n := 1) (by decide +kernel))) <|
  bb_istore (i := 9) (zd (i := .istore 9) (n := 2) (by decide +kernel)) (by decide +kernel) (wkNl_i rfl) <|
  bb_aload_n (n := 0) (i := 0) (zd (i := .aload_n 0) (n := 1) (by decide +kernel)) rfl rfl <|
  bb_aload_n (n := 0) (i := 0) (zd (i := .aload_n 0) (n := 1) (by decide +kernel)) rfl rfl <|
  bb_getr (k := 292) (ci := 9) (j := 48) (idx := 110) (a := 323) (zd (i := .getfield 110) (n := 3) (by decide +kernel)) (by decide +kernel) (by decide +kernel) (by decide +kernel) (by decide +kernel) rfl g1176 (hR 48 (by decide)) <|
  bb_iload_n (n := 1) (i := 1) (zd (i := .iload_n 1) (n := 1) (by decide +kernel)) rfl rfl <|
  bb_lift (fun _ => q_iald (k := 323) (zd (i := .iaload) (n := 1) (by decide +kernel)) (by decide +kernel) (by decide +kernel) h2) <|
  bb_iload_n (n := 2) (i := 2) (zd (i := .iload_n 2) (n := 1) (by decide +kernel)) rfl rfl <|
  bb_iload (i := 9) (zd (i := .iload 9) (n := 2) (by decide +kernel)) rfl <|
  bb_callVI (idx := 352) (k := 292) (ci := 9) (N := n_X9_sees) (As := [.int (I 323 a1.toNatClampNeg), .int a2, .int ((I 323 (96 : Int32).toNatClampNeg) + a8)]) (st := []) (zd (i := .invokevirtual 352) (n := 3) (by decide +kernel)) to_X9_sees g1449 g1451 g68 (Nat.le_of_ble_eq_true rfl) (by decide +kernel) (by decide +kernel) (by decide +kernel) rfl rfl rfl hc kk
theorem w_X9_worth_89 {Q : qQ} {I : qMI} {L : qML} {R : qMR} {a1 : Int32} {a2 : Int32} {a3 : Int32} {a4 : Int32} {a5 : Int32} {a6 : Int32} {a7 : Int32} {a8 : Int32} {a9 : Int32} {s0 : Int32} (kt : s0 = 0 → wkB l G (d + 1) n_X9_worth Q 118 [.ref 292, .int a1, .int a2, .int a3, .int a4, .int a5, .int a6, .int a7, .int a8, .int a9] [] I L R) (kf : ¬ s0 = 0 → wkB l G (d + 1) n_X9_worth Q 92 [.ref 292, .int a1, .int a2, .int a3, .int a4, .int a5, .int a6, .int a7, .int a8, .int a9] [] I L R) : wkB l G (d + 1) n_X9_worth Q 89 [.ref 292, .int a1, .int a2, .int a3, .int a4, .int a5, .int a6, .int a7, .int a8, .int a9] [.int s0] I L R :=
  (fun lv hl => q_if_eq (off := 29) (tgt := 118) (zd (i := .ifCond .eq (29)) (n := 3) (by decide +kernel)) (by decide) (fun h => (kt h) lv hl) (fun h => (kf h) lv hl))
theorem w_X9_worth_92 {Q : qQ} {I : qMI} {L : qML} {R : qMR} (hR : wkR R) {a1 : Int32} {a2 : Int32} {a3 : Int32} {a4 : Int32} {a5 : Int32} {a6 : Int32} {a7 : Int32} {a8 : Int32} {a9 : Int32} (h1 : vp_in a1 97) {P : Int32 → qMI → qML → Prop} (hc : wkI l G d n_X9_rentOf [.ref 292, .int (I 323 a1.toNatClampNeg), .int a2, .int a5, .int a9] I L R P) (kk : ∀ y I' L', P y I' L' → wkB l G (d + 1) n_X9_worth Q 109 [.ref 292, .int a1, .int a2, .int a3, .int a4, .int a5, .int a6, .int a7, .int a8, .int a9] [.int y, .int a7] I' L' R) : wkB l G (d + 1) n_X9_worth Q 92 [.ref 292, .int a1, .int a2, .int a3, .int a4, .int a5, .int a6, .int a7, .int a8, .int a9] [] I L R :=
  bb_iload (i := 7) (zd (i := .iload 7) (n := 2) (by decide +kernel)) rfl <|
  bb_aload_n (n := 0) (i := 0) (zd (i := .aload_n 0) (n := 1) (by decide +kernel)) rfl rfl <|
  bb_aload_n (n := 0) (i := 0) (zd (i := .aload_n 0) (n := 1) (by decide +kernel)) rfl rfl <|
  bb_getr (k := 292) (ci := 9) (j := 48) (idx := 110) (a := 323) (zd (i := .getfield 110) (n := 3) (by decide +kernel)) (by decide +kernel) (by decide +kernel) (by decide +kernel) (by decide +kernel) rfl g1176 (hR 48 (by decide)) <|
  bb_iload_n (n := 1) (i := 1) (zd (i := .iload_n 1) (n := 1) (by decide +kernel)) rfl rfl <|
  bb_lift (fun _ => q_iald (k := 323) (zd (i := .iaload) (n := 1) (by decide +kernel)) (by decide +kernel) (by decide +kernel) h1) <|
  bb_iload_n (n := 2) (i := 2) (zd (i := .iload_n 2) (n := 1) (by decide +kernel)) rfl rfl <|
  bb_iload (i := 5) (zd (i := .iload 5) (n := 2) (by decide +kernel)) rfl <|
  bb_iload (i := 9) (zd (i := .iload 9) (n := 2) (by decide +kernel)) rfl <|
  bb_callVI (idx := 355) (k := 292) (ci := 9) (N := n_X9_rentOf) (As := [.int (I 323 a1.toNatClampNeg), .int a2, .int a5, .int a9]) (st := [.int a7]) (zd (i := .invokevirtual 355) (n := 3) (by decide +kernel)) to_X9_rentOf g1514 g1516 g79 (Nat.le_of_ble_eq_true rfl) (by decide +kernel) (by decide +kernel) (by decide +kernel) rfl rfl rfl hc kk
theorem w_X9_worth_109 {Q : qQ} {I : qMI} {L : qML} {R : qMR} {a1 : Int32} {a2 : Int32} {a3 : Int32} {a4 : Int32} {a5 : Int32} {a6 : Int32} {a7 : Int32} {a8 : Int32} {a9 : Int32} {s0 : Int32} {s1 : Int32} (k : wkB l G (d + 1) n_X9_worth Q 149 [.ref 292, .int a1, .int a2, .int a3, .int a4, .int a5, .int 0, .int (s0 + s1), .int a8, .int a9] [] I L R) : wkB l G (d + 1) n_X9_worth Q 109 [.ref 292, .int a1, .int a2, .int a3, .int a4, .int a5, .int a6, .int a7, .int a8, .int a9] [.int s1, .int s0] I L R :=
  bb_lift (fun _ => q_iadd (zd (i := .iadd) (n := 1) (by decide +kernel))) <|
  bb_istore (i := 7) (zd (i := .istore 7) (n := 2) (by decide +kernel)) (by decide +kernel) (wkNl_i rfl) <|
  bb_lift (fun _ => q_iconst (n := 0) (zd (i := .iconst (0)) (n := 1) (by decide +kernel)) rfl) <|
  bb_istore (i := 6) (zd (i := .istore 6) (n := 2) (by decide +kernel)) (by decide +kernel) (wkNl_i rfl) <|
  bb_lift (fun _ => q_goto (off := 34) (tgt := 149) (zd (i := .goto (34)) (n := 3) (by decide +kernel)) (by decide)) k
theorem w_X9_worth_118 {Q : qQ} {I : qMI} {L : qML} {R : qMR} (hR : wkR R) {a1 : Int32} {a2 : Int32} {a3 : Int32} {a4 : Int32} {a5 : Int32} {a6 : Int32} {a7 : Int32} {a8 : Int32} {a9 : Int32} (h1 : vp_in (I 292 18) 2) (kt : (I 307 (I 292 18).toNatClampNeg) ≤ (a6 + 1) → wkB l G (d + 1) n_X9_worth Q 146 [.ref 292, .int a1, .int a2, .int a3, .int a4, .int a5, .int (a6 + 1), .int a7, .int a8, .int a9] [] I L R) (kf : ¬ (I 307 (I 292 18).toNatClampNeg) ≤ (a6 + 1) → wkB l G (d + 1) n_X9_worth Q 135 [.ref 292, .int a1, .int a2, .int a3, .int a4, .int a5, .int (a6 + 1), .int a7, .int a8, .int a9] [] I L R) : wkB l G (d + 1) n_X9_worth Q 118 [.ref 292, .int a1, .int a2, .int a3, .int a4, .int a5, .int a6, .int a7, .int a8, .int a9] [] I L R :=
  bb_iinc (i := 6) (n := 1) (zd (i := .iinc 6 (1)) (n := 3) (by decide +kernel)) rfl rfl (by decide +kernel) (wkNl_i rfl) <|
  bb_iload (i := 6) (zd (i := .iload 6) (n := 2) (by decide +kernel)) rfl <|
  bb_aload_n (n := 0) (i := 0) (zd (i := .aload_n 0) (n := 1) (by decide +kernel)) rfl rfl <|
  bb_getr (k := 292) (ci := 9) (j := 28) (idx := 61) (a := 307) (zd (i := .getfield 61) (n := 3) (by decide +kernel)) (by decide +kernel) (by decide +kernel) (by decide +kernel) (by decide +kernel) rfl g1156 (hR 28 (by decide)) <|
  bb_aload_n (n := 0) (i := 0) (zd (i := .aload_n 0) (n := 1) (by decide +kernel)) rfl rfl <|
  bb_geti (k := 292) (ci := 9) (j := 18) (idx := 230) (zd (i := .getfield 230) (n := 3) (by decide +kernel)) (by decide +kernel) (by decide +kernel) (by decide +kernel) (by decide +kernel) rfl g1146 <|
  bb_lift (fun _ => q_iald (k := 307) (zd (i := .iaload) (n := 1) (by decide +kernel)) (by decide +kernel) (by decide +kernel) h1) <|
  (fun lv hl => q_icmp_ge (off := 14) (tgt := 146) (zd (i := .if_icmp .ge (14)) (n := 3) (by decide +kernel)) (by decide) (fun h => (kt h) lv hl) (fun h => (kf h) lv hl))
theorem w_X9_worth_135 {Q : qQ} {I : qMI} {L : qML} {R : qMR} {a1 : Int32} {a2 : Int32} {a3 : Int32} {a4 : Int32} {a5 : Int32} {a6 : Int32} {a7 : Int32} {a8 : Int32} {a9 : Int32} {P : Int32 → qMI → qML → Prop} (hc : wkI l G d n_X9_grows [.ref 292, .int a5, .int a9] I L R P) (kk : ∀ y I' L', P y I' L' → wkB l G (d + 1) n_X9_worth Q 143 [.ref 292, .int a1, .int a2, .int a3, .int a4, .int a5, .int a6, .int a7, .int a8, .int a9] [.int y] I' L' R) : wkB l G (d + 1) n_X9_worth Q 135 [.ref 292, .int a1, .int a2, .int a3, .int a4, .int a5, .int a6, .int a7, .int a8, .int a9] [] I L R :=
  bb_aload_n (n := 0) (i := 0) (zd (i := .aload_n 0) (n := 1) (by decide +kernel)) rfl rfl <|
  bb_iload (i := 5) (zd (i := .iload 5) (n := 2) (by decide +kernel)) rfl <|
  bb_iload (i := 9) (zd (i := .iload 9) (n := 2) (by decide +kernel)) rfl <|
  bb_callVI (idx := 358) (k := 292) (ci := 9) (N := n_X9_grows) (As := [.int a5, .int a9]) (st := []) (zd (i := .invokevirtual 358) (n := 3) (by decide +kernel)) to_X9_grows g1566 g1568 g86 (Nat.le_of_ble_eq_true rfl) (by decide +kernel) (by decide +kernel) (by decide +kernel) rfl rfl rfl hc kk
theorem w_X9_worth_143 {Q : qQ} {I : qMI} {L : qML} {R : qMR} {a1 : Int32} {a2 : Int32} {a3 : Int32} {a4 : Int32} {a5 : Int32} {a6 : Int32} {a7 : Int32} {a8 : Int32} {a9 : Int32} {s0 : Int32} (k : wkB l G (d + 1) n_X9_worth Q 147 [.ref 292, .int a1, .int a2, .int a3, .int a4, .int a5, .int a6, .int a7, .int a8, .int a9] [.int s0] I L R) : wkB l G (d + 1) n_X9_worth Q 143 [.ref 292, .int a1, .int a2, .int a3, .int a4, .int a5, .int a6, .int a7, .int a8, .int a9] [.int s0] I L R :=
  bb_lift (fun _ => q_goto (off := 4) (tgt := 147) (zd (i := .goto (4)) (n := 3) (by decide +kernel)) (by decide)) k
theorem w_X9_worth_146 {Q : qQ} {I : qMI} {L : qML} {R : qMR} {a1 : Int32} {a2 : Int32} {a3 : Int32} {a4 : Int32} {a5 : Int32} {a6 : Int32} {a7 : Int32} {a8 : Int32} {a9 : Int32} (k : wkB l G (d + 1) n_X9_worth Q 147 [.ref 292, .int a1, .int a2, .int a3, .int a4, .int a5, .int a6, .int a7, .int a8, .int a9] [.int 0] I L R) : wkB l G (d + 1) n_X9_worth Q 146 [.ref 292, .int a1, .int a2, .int a3, .int a4, .int a5, .int a6, .int a7, .int a8, .int a9] [] I L R :=
  bb_lift (fun _ => q_iconst (n := 0) (zd (i := .iconst (0)) (n := 1) (by decide +kernel)) rfl) <|
  k
theorem w_X9_worth_147 {Q : qQ} {I : qMI} {L : qML} {R : qMR} {a1 : Int32} {a2 : Int32} {a3 : Int32} {a4 : Int32} {a5 : Int32} {a6 : Int32} {a7 : Int32} {a8 : Int32} {a9 : Int32} {s0 : Int32} (k : wkB l G (d + 1) n_X9_worth Q 149 [.ref 292, .int a1, .int a2, .int a3, .int a4, .int s0, .int a6, .int a7, .int a8, .int a9] [] I L R) : wkB l G (d + 1) n_X9_worth Q 147 [.ref 292, .int a1, .int a2, .int a3, .int a4, .int a5, .int a6, .int a7, .int a8, .int a9] [.int s0] I L R :=
  bb_istore (i := 5) (zd (i := .istore 5) (n := 2) (by decide +kernel)) (by decide +kernel) (wkNl_i rfl) <|
  k
theorem w_X9_worth_149 {Q : qQ} {I : qMI} {L : qML} {R : qMR} {a1 : Int32} {a2 : Int32} {a3 : Int32} {a4 : Int32} {a5 : Int32} {a6 : Int32} {a7 : Int32} {a8 : Int32} {a9 : Int32} (k : wkB l G (d + 1) n_X9_worth Q 52 [.ref 292, .int a1, .int a2, .int a3, .int a4, .int a5, .int a6, .int a7, .int (a8 + 1), wkU] [] I L R) : wkB l G (d + 1) n_X9_worth Q 149 [.ref 292, .int a1, .int a2, .int a3, .int a4, .int a5, .int a6, .int a7, .int a8, .int a9] [] I L R :=
  bb_iinc (i := 8) (n := 1) (zd (i := .iinc 8 (1)) (n := 3) (by decide +kernel)) rfl rfl (by decide +kernel) (wkNl_i rfl) <|
  bb_lift (fun _ => q_goto (off := -100) (tgt := 52) (zd (i := .goto (-100)) (n := 3) (by decide +kernel)) (by decide)) (wkB_le (vs := [.ref 292, .int a1, .int a2, .int a3, .int a4, .int a5, .int a6, .int a7, .int (a8 + 1), wkU]) (ws := [.ref 292, .int a1, .int a2, .int a3, .int a4, .int a5, .int a6, .int a7, .int (a8 + 1), .int a9]) ⟨Or.inr rfl, Or.inr rfl, Or.inr rfl, Or.inr rfl, Or.inr rfl, Or.inr rfl, Or.inr rfl, Or.inr rfl, Or.inr rfl, Or.inl rfl, trivial⟩ (k))
theorem w_X9_worth_155 {Q : qQ} {I : qMI} {L : qML} {R : qMR} {a1 : Int32} {a2 : Int32} {a3 : Int32} {a4 : Int32} {a5 : Int32} {a6 : Int32} {a7 : Int32} {a8 : Int32} (kt : a5 ≤ 0 → wkB l G (d + 1) n_X9_worth Q 192 [.ref 292, .int a1, .int a2, .int a3, .int a4, .int a5, .int a6, .int a7, .int a8, wkU] [] I L R) (kf : ¬ a5 ≤ 0 → wkB l G (d + 1) n_X9_worth Q 160 [.ref 292, .int a1, .int a2, .int a3, .int a4, .int a5, .int a6, .int a7, .int a8, wkU] [] I L R) : wkB l G (d + 1) n_X9_worth Q 155 [.ref 292, .int a1, .int a2, .int a3, .int a4, .int a5, .int a6, .int a7, .int a8, wkU] [] I L R :=
  bb_iload (i := 5) (zd (i := .iload 5) (n := 2) (by decide +kernel)) rfl <|
  (fun lv hl => q_if_le (off := 35) (tgt := 192) (zd (i := .ifCond .le (35)) (n := 3) (by decide +kernel)) (by decide) (fun h => (kt h) lv hl) (fun h => (kf h) lv hl))
theorem w_X9_worth_160 {Q : qQ} {I : qMI} {L : qML} {R : qMR} (hR : wkR R) {a1 : Int32} {a2 : Int32} {a3 : Int32} {a4 : Int32} {a5 : Int32} {a6 : Int32} {a7 : Int32} {a8 : Int32} (h1 : vp_in a1 97) (h2 : vp_in 96 97) {P : Int32 → qMI → qML → Prop} (hc : wkI l G d n_X9_sees [.ref 292, .int (I 323 a1.toNatClampNeg), .int a2, .int ((I 323 (96 : Int32).toNatClampNeg) + a4)] I L R P) (kk : ∀ y I' L', P y I' L' → wkB l G (d + 1) n_X9_worth Q 181 [.ref 292, .int a1, .int a2, .int a3, .int a4, .int a5, .int a6, .int a7, .int a8, wkU] [.int y] I' L' R) : wkB l G (d + 1) n_X9_worth Q 160 [.ref 292, .int a1, .int a2, .int a3, .int a4, .int a5, .int a6, .int a7, .int a8, wkU] [] I L R :=
  bb_aload_n (n := 0) (i := 0) (zd (i := .aload_n 0) (n := 1) (by decide +kernel)) rfl rfl <|
  bb_aload_n (n := 0) (i := 0) (zd (i := .aload_n 0) (n := 1) (by decide +kernel)) rfl rfl <|
  bb_getr (k := 292) (ci := 9) (j := 48) (idx := 110) (a := 323) (zd (i := .getfield 110) (n := 3) (by decide +kernel)) (by decide +kernel) (by decide +kernel) (by decide +kernel) (by decide +kernel) rfl g1176 (hR 48 (by decide)) <|
  bb_iload_n (n := 1) (i := 1) (zd (i := .iload_n 1) (n := 1) (by decide +kernel)) rfl rfl <|
  bb_lift (fun _ => q_iald (k := 323) (zd (i := .iaload) (n := 1) (by decide +kernel)) (by decide +kernel) (by decide +kernel) h1) <|
  bb_iload_n (n := 2) (i := 2) (zd (i := .iload_n 2) (n := 1) (by decide +kernel)) rfl rfl <|
  bb_aload_n (n := 0) (i := 0) (zd (i := .aload_n 0) (n := 1) (by decide +kernel)) rfl rfl <|
  bb_getr (k := 292) (ci := 9) (j := 48) (idx := 110) (a := 323) (zd (i := .getfield 110) (n := 3) (by decide +kernel)) (by decide +kernel) (by decide +kernel) (by decide +kernel) (by decide +kernel) rfl g1176 (hR 48 (by decide)) <|
  bb_lift (fun _ => q_bipush (n := 96) (zd (i := .bipush (96)) (n := 2) (by decide +kernel)) rfl) <|
  bb_lift (fun _ => q_iald (k := 323) (zd (i := .iaload) (n := 1) (by decide +kernel)) (by decide +kernel) (by decide +kernel) h2) <|
  bb_iload (i := 4) (zd (i := .iload 4) (n := 2) (by decide +kernel)) rfl <|
  bb_lift (fun _ => q_iadd (zd (i := .iadd) (n := 1) (by decide +kernel))) <|
  bb_callVI (idx := 352) (k := 292) (ci := 9) (N := n_X9_sees) (As := [.int (I 323 a1.toNatClampNeg), .int a2, .int ((I 323 (96 : Int32).toNatClampNeg) + a4)]) (st := []) (zd (i := .invokevirtual 352) (n := 3) (by decide +kernel)) to_X9_sees g1449 g1451 g68 (Nat.le_of_ble_eq_true rfl) (by decide +kernel) (by decide +kernel) (by decide +kernel) rfl rfl rfl hc kk
theorem w_X9_worth_181 {Q : qQ} {I : qMI} {L : qML} {R : qMR} {a1 : Int32} {a2 : Int32} {a3 : Int32} {a4 : Int32} {a5 : Int32} {a6 : Int32} {a7 : Int32} {a8 : Int32} {s0 : Int32} (kt : s0 = 0 → wkB l G (d + 1) n_X9_worth Q 192 [.ref 292, .int a1, .int a2, .int a3, .int a4, .int a5, .int a6, .int a7, .int a8, wkU] [] I L R) (kf : ¬ s0 = 0 → wkB l G (d + 1) n_X9_worth Q 184 [.ref 292, .int a1, .int a2, .int a3, .int a4, .int a5, .int a6, .int a7, .int a8, wkU] [] I L R) : wkB l G (d + 1) n_X9_worth Q 181 [.ref 292, .int a1, .int a2, .int a3, .int a4, .int a5, .int a6, .int a7, .int a8, wkU] [.int s0] I L R :=
  (fun lv hl => q_if_eq (off := 11) (tgt := 192) (zd (i := .ifCond .eq (11)) (n := 3) (by decide +kernel)) (by decide) (fun h => (kt h) lv hl) (fun h => (kf h) lv hl))
theorem w_X9_worth_184 {Q : qQ} {I : qMI} {L : qML} {R : qMR} {a1 : Int32} {a2 : Int32} {a3 : Int32} {a4 : Int32} {a5 : Int32} {a6 : Int32} {a7 : Int32} {a8 : Int32} (k : wkB l G (d + 1) n_X9_worth Q 194 [.ref 292, .int a1, .int a2, .int a3, .int a4, .int a5, .int a6, .int a7, .int a8, wkU] [.int (a7 + a5)] I L R) : wkB l G (d + 1) n_X9_worth Q 184 [.ref 292, .int a1, .int a2, .int a3, .int a4, .int a5, .int a6, .int a7, .int a8, wkU] [] I L R :=
  bb_iload (i := 7) (zd (i := .iload 7) (n := 2) (by decide +kernel)) rfl <|
  bb_iload (i := 5) (zd (i := .iload 5) (n := 2) (by decide +kernel)) rfl <|
  bb_lift (fun _ => q_iadd (zd (i := .iadd) (n := 1) (by decide +kernel))) <|
  bb_lift (fun _ => q_goto (off := 5) (tgt := 194) (zd (i := .goto (5)) (n := 3) (by decide +kernel)) (by decide)) k
theorem w_X9_worth_192 {Q : qQ} {I : qMI} {L : qML} {R : qMR} {a1 : Int32} {a2 : Int32} {a3 : Int32} {a4 : Int32} {a5 : Int32} {a6 : Int32} {a7 : Int32} {a8 : Int32} (k : wkB l G (d + 1) n_X9_worth Q 194 [.ref 292, .int a1, .int a2, .int a3, .int a4, .int a5, .int a6, .int a7, .int a8, wkU] [.int a7] I L R) : wkB l G (d + 1) n_X9_worth Q 192 [.ref 292, .int a1, .int a2, .int a3, .int a4, .int a5, .int a6, .int a7, .int a8, wkU] [] I L R :=
  bb_iload (i := 7) (zd (i := .iload 7) (n := 2) (by decide +kernel)) rfl <|
  k
theorem w_X9_worth_194 {Q : qQ} {I : qMI} {L : qML} {R : qMR} {a1 : Int32} {a2 : Int32} {a3 : Int32} {a4 : Int32} {a5 : Int32} {a6 : Int32} {a7 : Int32} {a8 : Int32} {s0 : Int32} (hQ : Q (some (.int s0)) 336 I L R) : wkB l G (d + 1) n_X9_worth Q 194 [.ref 292, .int a1, .int a2, .int a3, .int a4, .int a5, .int a6, .int a7, .int a8, wkU] [.int s0] I L R :=
  (fun lv hl => q_iret (zd (i := .ireturn) (n := 1) (by decide +kernel)) rfl rfl (Nat.le_refl _) (Nat.le_refl _) hQ)
theorem w_X9_lentIn_0 {Q : qQ} {I : qMI} {L : qML} {R : qMR} {a1 : Int32} {a2 : Int32} {a3 : Int32} {P : Int32 → qMI → qML → Prop} (hc : wkI l G d n_X9_isSeat [.ref 292, .int a1] I L R P) (kk : ∀ y I' L', P y I' L' → wkB l G (d + 1) n_X9_lentIn Q 5 [.ref 292, .int a1, .int a2, .int a3] [.int y] I' L' R) : wkB l G (d + 1) n_X9_lentIn Q 0 [.ref 292, .int a1, .int a2, .int a3] [] I L R :=
  bb_aload_n (n := 0) (i := 0) (zd (i := .aload_n 0) (n := 1) (by decide +kernel)) rfl rfl <|
  bb_iload_n (n := 1) (i := 1) (zd (i := .iload_n 1) (n := 1) (by decide +kernel)) rfl rfl <|
  bb_callVI (idx := 378) (k := 292) (ci := 9) (N := n_X9_isSeat) (As := [.int a1]) (st := []) (zd (i := .invokevirtual 378) (n := 3) (by decide +kernel)) to_X9_isSeat g1487 g1489 g75 (Nat.le_of_ble_eq_true rfl) (by decide +kernel) (by decide +kernel) (by decide +kernel) rfl rfl rfl hc kk
theorem w_X9_lentIn_5 {Q : qQ} {I : qMI} {L : qML} {R : qMR} {a1 : Int32} {a2 : Int32} {a3 : Int32} {s0 : Int32} (kt : s0 = 0 → wkB l G (d + 1) n_X9_lentIn Q 23 [.ref 292, .int a1, .int a2, .int a3] [] I L R) (kf : ¬ s0 = 0 → wkB l G (d + 1) n_X9_lentIn Q 8 [.ref 292, .int a1, .int a2, .int a3] [] I L R) : wkB l G (d + 1) n_X9_lentIn Q 5 [.ref 292, .int a1, .int a2, .int a3] [.int s0] I L R :=
  (fun lv hl => q_if_eq (off := 18) (tgt := 23) (zd (i := .ifCond .eq (18)) (n := 3) (by decide +kernel)) (by decide) (fun h => (kt h) lv hl) (fun h => (kf h) lv hl))
theorem w_X9_lentIn_8 {Q : qQ} {I : qMI} {L : qML} {R : qMR} {a1 : Int32} {a2 : Int32} {a3 : Int32} {P : Int32 → qMI → qML → Prop} (hc : wkI l G d n_X9_isThing [.ref 292, .int a2] I L R P) (kk : ∀ y I' L', P y I' L' → wkB l G (d + 1) n_X9_lentIn Q 13 [.ref 292, .int a1, .int a2, .int a3] [.int y] I' L' R) : wkB l G (d + 1) n_X9_lentIn Q 8 [.ref 292, .int a1, .int a2, .int a3] [] I L R :=
  bb_aload_n (n := 0) (i := 0) (zd (i := .aload_n 0) (n := 1) (by decide +kernel)) rfl rfl <|
  bb_iload_n (n := 2) (i := 2) (zd (i := .iload_n 2) (n := 1) (by decide +kernel)) rfl rfl <|
  bb_callVI (idx := 372) (k := 292) (ci := 9) (N := n_X9_isThing) (As := [.int a2]) (st := []) (zd (i := .invokevirtual 372) (n := 3) (by decide +kernel)) to_X9_isThing g1438 g1440 g66 (Nat.le_of_ble_eq_true rfl) (by decide +kernel) (by decide +kernel) (by decide +kernel) rfl rfl rfl hc kk
theorem w_X9_lentIn_13 {Q : qQ} {I : qMI} {L : qML} {R : qMR} {a1 : Int32} {a2 : Int32} {a3 : Int32} {s0 : Int32} (kt : s0 = 0 → wkB l G (d + 1) n_X9_lentIn Q 23 [.ref 292, .int a1, .int a2, .int a3] [] I L R) (kf : ¬ s0 = 0 → wkB l G (d + 1) n_X9_lentIn Q 16 [.ref 292, .int a1, .int a2, .int a3] [] I L R) : wkB l G (d + 1) n_X9_lentIn Q 13 [.ref 292, .int a1, .int a2, .int a3] [.int s0] I L R :=
  (fun lv hl => q_if_eq (off := 10) (tgt := 23) (zd (i := .ifCond .eq (10)) (n := 3) (by decide +kernel)) (by decide) (fun h => (kt h) lv hl) (fun h => (kf h) lv hl))
theorem w_X9_lentIn_16 {Q : qQ} {I : qMI} {L : qML} {R : qMR} {a1 : Int32} {a2 : Int32} {a3 : Int32} {P : Int32 → qMI → qML → Prop} (hc : wkI l G d n_X9_isLong [.int a3] I L R P) (kk : ∀ y I' L', P y I' L' → wkB l G (d + 1) n_X9_lentIn Q 20 [.ref 292, .int a1, .int a2, .int a3] [.int y] I' L' R) : wkB l G (d + 1) n_X9_lentIn Q 16 [.ref 292, .int a1, .int a2, .int a3] [] I L R :=
  bb_iload_n (n := 3) (i := 3) (zd (i := .iload_n 3) (n := 1) (by decide +kernel)) rfl rfl <|
  bb_callSI (idx := 393) (N := n_X9_isLong) (As := [.int a3]) (st := []) (zd (i := .invokestatic 393) (n := 3) (by decide +kernel)) to_X9_isLong g1543 g1544 (Nat.le_of_ble_eq_true rfl) rfl rfl hc kk
theorem w_X9_lentIn_20 {Q : qQ} {I : qMI} {L : qML} {R : qMR} {a1 : Int32} {a2 : Int32} {a3 : Int32} {s0 : Int32} (kt : ¬ s0 = 0 → wkB l G (d + 1) n_X9_lentIn Q 25 [.ref 292, .int a1, .int a2, .int a3] [] I L R) (kf : s0 = 0 → wkB l G (d + 1) n_X9_lentIn Q 23 [.ref 292, .int a1, .int a2, .int a3] [] I L R) : wkB l G (d + 1) n_X9_lentIn Q 20 [.ref 292, .int a1, .int a2, .int a3] [.int s0] I L R :=
  (fun lv hl => q_if_ne (off := 5) (tgt := 25) (zd (i := .ifCond .ne (5)) (n := 3) (by decide +kernel)) (by decide) (fun h => (kt h) lv hl) (fun h => (kf h) lv hl))
theorem w_X9_lentIn_23 {Q : qQ} {I : qMI} {L : qML} {R : qMR} {a1 : Int32} {a2 : Int32} {a3 : Int32} (hQ : Q (some (.int (-1))) 336 I L R) : wkB l G (d + 1) n_X9_lentIn Q 23 [.ref 292, .int a1, .int a2, .int a3] [] I L R :=
  bb_lift (fun _ => q_iconst (n := -1) (zd (i := .iconst (-1)) (n := 1) (by decide +kernel)) rfl) <|
  (fun lv hl => q_iret (zd (i := .ireturn) (n := 1) (by decide +kernel)) rfl rfl (Nat.le_refl _) (Nat.le_refl _) hQ)
theorem w_X9_lentIn_25 {Q : qQ} {I : qMI} {L : qML} {R : qMR} {a1 : Int32} {a2 : Int32} {a3 : Int32} {P : qMI → qML → Prop} (hc : wkV l G d n_X9_copies [.ref 292] I L R P) (kk : ∀ I' L', P I' L' → wkB l G (d + 1) n_X9_lentIn Q 29 [.ref 292, .int a1, .int a2, .int a3] [] I' L' R) : wkB l G (d + 1) n_X9_lentIn Q 25 [.ref 292, .int a1, .int a2, .int a3] [] I L R :=
  bb_aload_n (n := 0) (i := 0) (zd (i := .aload_n 0) (n := 1) (by decide +kernel)) rfl rfl <|
  bb_callVV (idx := 375) (k := 292) (ci := 9) (N := n_X9_copies) (As := []) (st := []) (zd (i := .invokevirtual 375) (n := 3) (by decide +kernel)) to_X9_copies g1445 g1447 g67 (Nat.le_of_ble_eq_true rfl) (by decide +kernel) (by decide +kernel) (by decide +kernel) rfl rfl rfl hc kk
theorem w_X9_lentIn_29 {Q : qQ} {I : qMI} {L : qML} {R : qMR} {a1 : Int32} {a2 : Int32} {a3 : Int32} {P : qMI → qML → Prop} (hc : wkV l G d n_X9_goes [.ref 292, .int a3] I L R P) (kk : ∀ I' L', P I' L' → wkB l G (d + 1) n_X9_lentIn Q 34 [.ref 292, .int a1, .int a2, .int a3] [] I' L' R) : wkB l G (d + 1) n_X9_lentIn Q 29 [.ref 292, .int a1, .int a2, .int a3] [] I L R :=
  bb_aload_n (n := 0) (i := 0) (zd (i := .aload_n 0) (n := 1) (by decide +kernel)) rfl rfl <|
  bb_iload_n (n := 3) (i := 3) (zd (i := .iload_n 3) (n := 1) (by decide +kernel)) rfl rfl <|
  bb_callVV (idx := 396) (k := 292) (ci := 9) (N := n_X9_goes) (As := [.int a3]) (st := []) (zd (i := .invokevirtual 396) (n := 3) (by decide +kernel)) to_X9_goes g1546 g1548 g82 (Nat.le_of_ble_eq_true rfl) (by decide +kernel) (by decide +kernel) (by decide +kernel) rfl rfl rfl hc kk
theorem w_X9_lentIn_34 {Q : qQ} {I : qMI} {L : qML} {R : qMR} (hR : wkR R) {a1 : Int32} {a2 : Int32} {a3 : Int32} (h1 : vp_in ((24 + (6 * a1)) + a2) 97) (kt : ¬ (I 324 ((24 + (6 * a1)) + a2).toNatClampNeg) = 0 → wkB l G (d + 1) n_X9_lentIn Q 56 [.ref 292, .int a1, .int a2, .int a3] [] I L R) (kf : (I 324 ((24 + (6 * a1)) + a2).toNatClampNeg) = 0 → wkB l G (d + 1) n_X9_lentIn Q 51 [.ref 292, .int a1, .int a2, .int a3] [] I L R) : wkB l G (d + 1) n_X9_lentIn Q 34 [.ref 292, .int a1, .int a2, .int a3] [] I L R :=
  bb_aload_n (n := 0) (i := 0) (zd (i := .aload_n 0) (n := 1) (by decide +kernel)) rfl rfl <|
  bb_getr (k := 292) (ci := 9) (j := 49) (idx := 113) (a := 324) (zd (i := .getfield 113) (n := 3) (by decide +kernel)) (by decide +kernel) (by decide +kernel) (by decide +kernel) (by decide +kernel) rfl g1177 (hR 49 (by decide)) <|
  bb_lift (fun _ => q_bipush (n := 24) (zd (i := .bipush (24)) (n := 2) (by decide +kernel)) rfl) <|
  bb_lift (fun _ => q_bipush (n := 6) (zd (i := .bipush (6)) (n := 2) (by decide +kernel)) rfl) <|
  bb_iload_n (n := 1) (i := 1) (zd (i := .iload_n 1) (n := 1) (by decide +kernel)) rfl rfl <|
  bb_lift (fun _ => q_imul (zd (i := .imul) (n := 1) (by decide +kernel))) <|
  bb_lift (fun _ => q_iadd (zd (i := .iadd) (n := 1) (by decide +kernel))) <|
  bb_iload_n (n := 2) (i := 2) (zd (i := .iload_n 2) (n := 1) (by decide +kernel)) rfl rfl <|
  bb_lift (fun _ => q_iadd (zd (i := .iadd) (n := 1) (by decide +kernel))) <|
  bb_lift (fun _ => q_iald (k := 324) (zd (i := .iaload) (n := 1) (by decide +kernel)) (by decide +kernel) (by decide +kernel) h1) <|
  (fun lv hl => q_if_ne (off := 8) (tgt := 56) (zd (i := .ifCond .ne (8)) (n := 3) (by decide +kernel)) (by decide) (fun h => (kt h) lv hl) (fun h => (kf h) lv hl))
theorem w_X9_lentIn_51 {Q : qQ} {I : qMI} {L : qML} {R : qMR} {a1 : Int32} {a2 : Int32} {a3 : Int32} (k : wkB l G (d + 1) n_X9_lentIn Q 70 [.ref 292, .int a1, .int a2, .int a3] [.int (-2)] I L R) : wkB l G (d + 1) n_X9_lentIn Q 51 [.ref 292, .int a1, .int a2, .int a3] [] I L R :=
  bb_lift (fun _ => q_bipush (n := -2) (zd (i := .bipush (-2)) (n := 2) (by decide +kernel)) rfl) <|
  bb_lift (fun _ => q_goto (off := 17) (tgt := 70) (zd (i := .goto (17)) (n := 3) (by decide +kernel)) (by decide)) k
theorem w_X9_lentIn_56 {Q : qQ} {I : qMI} {L : qML} {R : qMR} (hR : wkR R) {a1 : Int32} {a2 : Int32} {a3 : Int32} (h1 : vp_in ((24 + (6 * a1)) + a2) 97) (k : wkB l G (d + 1) n_X9_lentIn Q 70 [.ref 292, .int a1, .int a2, .int a3] [.int (I 324 ((24 + (6 * a1)) + a2).toNatClampNeg)] I L R) : wkB l G (d + 1) n_X9_lentIn Q 56 [.ref 292, .int a1, .int a2, .int a3] [] I L R :=
  bb_aload_n (n := 0) (i := 0) (zd (i := .aload_n 0) (n := 1) (by decide +kernel)) rfl rfl <|
  bb_getr (k := 292) (ci := 9) (j := 49) (idx := 113) (a := 324) (zd (i := .getfield 113) (n := 3) (by decide +kernel)) (by decide +kernel) (by decide +kernel) (by decide +kernel) (by decide +kernel) rfl g1177 (hR 49 (by decide)) <|
  bb_lift (fun _ => q_bipush (n := 24) (zd (i := .bipush (24)) (n := 2) (by decide +kernel)) rfl) <|
  bb_lift (fun _ => q_bipush (n := 6) (zd (i := .bipush (6)) (n := 2) (by decide +kernel)) rfl) <|
  bb_iload_n (n := 1) (i := 1) (zd (i := .iload_n 1) (n := 1) (by decide +kernel)) rfl rfl <|
  bb_lift (fun _ => q_imul (zd (i := .imul) (n := 1) (by decide +kernel))) <|
  bb_lift (fun _ => q_iadd (zd (i := .iadd) (n := 1) (by decide +kernel))) <|
  bb_iload_n (n := 2) (i := 2) (zd (i := .iload_n 2) (n := 1) (by decide +kernel)) rfl rfl <|
  bb_lift (fun _ => q_iadd (zd (i := .iadd) (n := 1) (by decide +kernel))) <|
  bb_lift (fun _ => q_iald (k := 324) (zd (i := .iaload) (n := 1) (by decide +kernel)) (by decide +kernel) (by decide +kernel) h1) <|
  k
theorem w_X9_lentIn_70 {Q : qQ} {I : qMI} {L : qML} {R : qMR} {a1 : Int32} {a2 : Int32} {a3 : Int32} {s0 : Int32} (hQ : Q (some (.int s0)) 336 I L R) : wkB l G (d + 1) n_X9_lentIn Q 70 [.ref 292, .int a1, .int a2, .int a3] [.int s0] I L R :=
  (fun lv hl => q_iret (zd (i := .ireturn) (n := 1) (by decide +kernel)) rfl rfl (Nat.le_refl _) (Nat.le_refl _) hQ)
theorem w_X9_year_0 {Q : qQ} {I : qMI} {L : qML} {R : qMR} {a1 : Int32} {a2 : Int32} {a3 : Int32} {a4 : Int32} {P : Int32 → qMI → qML → Prop} (hc : wkI l G d n_X9_isSeat [.ref 292, .int a1] I L R P) (kk : ∀ y I' L', P y I' L' → wkB l G (d + 1) n_X9_year Q 5 [.ref 292, .int a1, .int a2, .int a3, .int a4, wkU, wkU] [.int y] I' L' R) : wkB l G (d + 1) n_X9_year Q 0 [.ref 292, .int a1, .int a2, .int a3, .int a4, wkU, wkU] [] I L R :=
  bb_aload_n (n := 0) (i := 0) (zd (i := .aload_n 0) (n := 1) (by decide +kernel)) rfl rfl <|
  bb_iload_n (n := 1) (i := 1) (zd (i := .iload_n 1) (n := 1) (by decide +kernel)) rfl rfl <|
  bb_callVI (idx := 378) (k := 292) (ci := 9) (N := n_X9_isSeat) (As := [.int a1]) (st := []) (zd (i := .invokevirtual 378) (n := 3) (by decide +kernel)) to_X9_isSeat g1487 g1489 g75 (Nat.le_of_ble_eq_true rfl) (by decide +kernel) (by decide +kernel) (by decide +kernel) rfl rfl rfl hc kk
theorem w_X9_year_5 {Q : qQ} {I : qMI} {L : qML} {R : qMR} {a1 : Int32} {a2 : Int32} {a3 : Int32} {a4 : Int32} {s0 : Int32} (kt : s0 = 0 → wkB l G (d + 1) n_X9_year Q 34 [.ref 292, .int a1, .int a2, .int a3, .int a4, wkU, wkU] [] I L R) (kf : ¬ s0 = 0 → wkB l G (d + 1) n_X9_year Q 8 [.ref 292, .int a1, .int a2, .int a3, .int a4, wkU, wkU] [] I L R) : wkB l G (d + 1) n_X9_year Q 5 [.ref 292, .int a1, .int a2, .int a3, .int a4, wkU, wkU] [.int s0] I L R :=
  (fun lv hl => q_if_eq (off := 29) (tgt := 34) (zd (i := .ifCond .eq (29)) (n := 3) (by decide +kernel)) (by decide) (fun h => (kt h) lv hl) (fun h => (kf h) lv hl))
theorem w_X9_year_8 {Q : qQ} {I : qMI} {L : qML} {R : qMR} {a1 : Int32} {a2 : Int32} {a3 : Int32} {a4 : Int32} {P : Int32 → qMI → qML → Prop} (hc : wkI l G d n_X9_isThing [.ref 292, .int a2] I L R P) (kk : ∀ y I' L', P y I' L' → wkB l G (d + 1) n_X9_year Q 13 [.ref 292, .int a1, .int a2, .int a3, .int a4, wkU, wkU] [.int y] I' L' R) : wkB l G (d + 1) n_X9_year Q 8 [.ref 292, .int a1, .int a2, .int a3, .int a4, wkU, wkU] [] I L R :=
  bb_aload_n (n := 0) (i := 0) (zd (i := .aload_n 0) (n := 1) (by decide +kernel)) rfl rfl <|
  bb_iload_n (n := 2) (i := 2) (zd (i := .iload_n 2) (n := 1) (by decide +kernel)) rfl rfl <|
  bb_callVI (idx := 372) (k := 292) (ci := 9) (N := n_X9_isThing) (As := [.int a2]) (st := []) (zd (i := .invokevirtual 372) (n := 3) (by decide +kernel)) to_X9_isThing g1438 g1440 g66 (Nat.le_of_ble_eq_true rfl) (by decide +kernel) (by decide +kernel) (by decide +kernel) rfl rfl rfl hc kk
theorem w_X9_year_13 {Q : qQ} {I : qMI} {L : qML} {R : qMR} {a1 : Int32} {a2 : Int32} {a3 : Int32} {a4 : Int32} {s0 : Int32} (kt : s0 = 0 → wkB l G (d + 1) n_X9_year Q 34 [.ref 292, .int a1, .int a2, .int a3, .int a4, wkU, wkU] [] I L R) (kf : ¬ s0 = 0 → wkB l G (d + 1) n_X9_year Q 16 [.ref 292, .int a1, .int a2, .int a3, .int a4, wkU, wkU] [] I L R) : wkB l G (d + 1) n_X9_year Q 13 [.ref 292, .int a1, .int a2, .int a3, .int a4, wkU, wkU] [.int s0] I L R :=
  (fun lv hl => q_if_eq (off := 21) (tgt := 34) (zd (i := .ifCond .eq (21)) (n := 3) (by decide +kernel)) (by decide) (fun h => (kt h) lv hl) (fun h => (kf h) lv hl))
theorem w_X9_year_16 {Q : qQ} {I : qMI} {L : qML} {R : qMR} {a1 : Int32} {a2 : Int32} {a3 : Int32} {a4 : Int32} {P : Int32 → qMI → qML → Prop} (hc : wkI l G d n_X9_isLong [.int a3] I L R P) (kk : ∀ y I' L', P y I' L' → wkB l G (d + 1) n_X9_year Q 20 [.ref 292, .int a1, .int a2, .int a3, .int a4, wkU, wkU] [.int y] I' L' R) : wkB l G (d + 1) n_X9_year Q 16 [.ref 292, .int a1, .int a2, .int a3, .int a4, wkU, wkU] [] I L R :=
  bb_iload_n (n := 3) (i := 3) (zd (i := .iload_n 3) (n := 1) (by decide +kernel)) rfl rfl <|
  bb_callSI (idx := 393) (N := n_X9_isLong) (As := [.int a3]) (st := []) (zd (i := .invokestatic 393) (n := 3) (by decide +kernel)) to_X9_isLong g1543 g1544 (Nat.le_of_ble_eq_true rfl) rfl rfl hc kk
theorem w_X9_year_20 {Q : qQ} {I : qMI} {L : qML} {R : qMR} {a1 : Int32} {a2 : Int32} {a3 : Int32} {a4 : Int32} {s0 : Int32} (kt : s0 = 0 → wkB l G (d + 1) n_X9_year Q 34 [.ref 292, .int a1, .int a2, .int a3, .int a4, wkU, wkU] [] I L R) (kf : ¬ s0 = 0 → wkB l G (d + 1) n_X9_year Q 23 [.ref 292, .int a1, .int a2, .int a3, .int a4, wkU, wkU] [] I L R) : wkB l G (d + 1) n_X9_year Q 20 [.ref 292, .int a1, .int a2, .int a3, .int a4, wkU, wkU] [.int s0] I L R :=
  (fun lv hl => q_if_eq (off := 14) (tgt := 34) (zd (i := .ifCond .eq (14)) (n := 3) (by decide +kernel)) (by decide) (fun h => (kt h) lv hl) (fun h => (kf h) lv hl))
theorem w_X9_year_23 {Q : qQ} {I : qMI} {L : qML} {R : qMR} {a1 : Int32} {a2 : Int32} {a3 : Int32} {a4 : Int32} {P : Int32 → qMI → qML → Prop} (hc : wkI l G d n_X9_in [.int a4, .int 1, .int 20] I L R P) (kk : ∀ y I' L', P y I' L' → wkB l G (d + 1) n_X9_year Q 31 [.ref 292, .int a1, .int a2, .int a3, .int a4, wkU, wkU] [.int y] I' L' R) : wkB l G (d + 1) n_X9_year Q 23 [.ref 292, .int a1, .int a2, .int a3, .int a4, wkU, wkU] [] I L R :=
  bb_iload (i := 4) (zd (i := .iload 4) (n := 2) (by decide +kernel)) rfl <|
  bb_lift (fun _ => q_iconst (n := 1) (zd (i := .iconst (1)) (n := 1) (by decide +kernel)) rfl) <|
  bb_lift (fun _ => q_bipush (n := 20) (zd (i := .bipush (20)) (n := 2) (by decide +kernel)) rfl) <|
  bb_callSI (idx := 304) (N := n_X9_in) (As := [.int a4, .int 1, .int 20]) (st := []) (zd (i := .invokestatic 304) (n := 3) (by decide +kernel)) to_X9_in g1442 g1443 (Nat.le_of_ble_eq_true rfl) rfl rfl hc kk
theorem w_X9_year_31 {Q : qQ} {I : qMI} {L : qML} {R : qMR} {a1 : Int32} {a2 : Int32} {a3 : Int32} {a4 : Int32} {s0 : Int32} (kt : ¬ s0 = 0 → wkB l G (d + 1) n_X9_year Q 36 [.ref 292, .int a1, .int a2, .int a3, .int a4, wkU, wkU] [] I L R) (kf : s0 = 0 → wkB l G (d + 1) n_X9_year Q 34 [.ref 292, .int a1, .int a2, .int a3, .int a4, wkU, wkU] [] I L R) : wkB l G (d + 1) n_X9_year Q 31 [.ref 292, .int a1, .int a2, .int a3, .int a4, wkU, wkU] [.int s0] I L R :=
  (fun lv hl => q_if_ne (off := 5) (tgt := 36) (zd (i := .ifCond .ne (5)) (n := 3) (by decide +kernel)) (by decide) (fun h => (kt h) lv hl) (fun h => (kf h) lv hl))
theorem w_X9_year_34 {Q : qQ} {I : qMI} {L : qML} {R : qMR} {a1 : Int32} {a2 : Int32} {a3 : Int32} {a4 : Int32} (hQ : Q (some (.int (-1))) 336 I L R) : wkB l G (d + 1) n_X9_year Q 34 [.ref 292, .int a1, .int a2, .int a3, .int a4, wkU, wkU] [] I L R :=
  bb_lift (fun _ => q_iconst (n := -1) (zd (i := .iconst (-1)) (n := 1) (by decide +kernel)) rfl) <|
  (fun lv hl => q_iret (zd (i := .ireturn) (n := 1) (by decide +kernel)) rfl rfl (Nat.le_refl _) (Nat.le_refl _) hQ)
theorem w_X9_year_36 {Q : qQ} {I : qMI} {L : qML} {R : qMR} {a1 : Int32} {a2 : Int32} {a3 : Int32} {a4 : Int32} (k : wkB l G (d + 1) n_X9_year Q 42 [.ref 292, .int a1, .int a2, .int a3, .int a4, .int 0, .int 0] [] I L R) : wkB l G (d + 1) n_X9_year Q 36 [.ref 292, .int a1, .int a2, .int a3, .int a4, wkU, wkU] [] I L R :=
  bb_lift (fun _ => q_iconst (n := 0) (zd (i := .iconst (0)) (n := 1) (by decide +kernel)) rfl) <|
  bb_istore (i := 5) (zd (i := .istore 5) (n := 2) (by decide +kernel)) (by decide +kernel) (wkNl_i rfl) <|
  bb_lift (fun _ => q_iconst (n := 0) (zd (i := .iconst (0)) (n := 1) (by decide +kernel)) rfl) <|
  bb_istore (i := 6) (zd (i := .istore 6) (n := 2) (by decide +kernel)) (by decide +kernel) (wkNl_i rfl) <|
  k
theorem w_X9_year_42 {Q : qQ} {I : qMI} {L : qML} {R : qMR} {a1 : Int32} {a2 : Int32} {a3 : Int32} {a4 : Int32} {a5 : Int32} {a6 : Int32} (kt : a4 ≤ a6 → wkB l G (d + 1) n_X9_year Q 95 [.ref 292, .int a1, .int a2, .int a3, .int a4, .int a5, .int a6] [] I L R) (kf : ¬ a4 ≤ a6 → wkB l G (d + 1) n_X9_year Q 49 [.ref 292, .int a1, .int a2, .int a3, .int a4, .int a5, .int a6] [] I L R) : wkB l G (d + 1) n_X9_year Q 42 [.ref 292, .int a1, .int a2, .int a3, .int a4, .int a5, .int a6] [] I L R :=
  bb_iload (i := 6) (zd (i := .iload 6) (n := 2) (by decide +kernel)) rfl <|
  bb_iload (i := 4) (zd (i := .iload 4) (n := 2) (by decide +kernel)) rfl <|
  (fun lv hl => q_icmp_ge (off := 49) (tgt := 95) (zd (i := .if_icmp .ge (49)) (n := 3) (by decide +kernel)) (by decide) (fun h => (kt h) lv hl) (fun h => (kf h) lv hl))
theorem w_X9_year_49 {Q : qQ} {I : qMI} {L : qML} {R : qMR} {a1 : Int32} {a2 : Int32} {a3 : Int32} {a4 : Int32} {a5 : Int32} {a6 : Int32} {P : qMI → qML → Prop} (hc : wkV l G d n_X9_copies [.ref 292] I L R P) (kk : ∀ I' L', P I' L' → wkB l G (d + 1) n_X9_year Q 53 [.ref 292, .int a1, .int a2, .int a3, .int a4, .int a5, .int a6] [] I' L' R) : wkB l G (d + 1) n_X9_year Q 49 [.ref 292, .int a1, .int a2, .int a3, .int a4, .int a5, .int a6] [] I L R :=
  bb_aload_n (n := 0) (i := 0) (zd (i := .aload_n 0) (n := 1) (by decide +kernel)) rfl rfl <|
  bb_callVV (idx := 375) (k := 292) (ci := 9) (N := n_X9_copies) (As := []) (st := []) (zd (i := .invokevirtual 375) (n := 3) (by decide +kernel)) to_X9_copies g1445 g1447 g67 (Nat.le_of_ble_eq_true rfl) (by decide +kernel) (by decide +kernel) (by decide +kernel) rfl rfl rfl hc kk
theorem w_X9_year_53 {Q : qQ} {I : qMI} {L : qML} {R : qMR} {a1 : Int32} {a2 : Int32} {a3 : Int32} {a4 : Int32} {a5 : Int32} {a6 : Int32} {P : qMI → qML → Prop} (hc : wkV l G d n_X9_goes [.ref 292, .int a3] (qUp I 292 50 ((I 292 50) + a6)) L R P) (kk : ∀ I' L', P I' L' → wkB l G (d + 1) n_X9_year Q 69 [.ref 292, .int a1, .int a2, .int a3, .int a4, .int a5, .int a6] [] I' L' R) : wkB l G (d + 1) n_X9_year Q 53 [.ref 292, .int a1, .int a2, .int a3, .int a4, .int a5, .int a6] [] I L R :=
  bb_aload_n (n := 0) (i := 0) (zd (i := .aload_n 0) (n := 1) (by decide +kernel)) rfl rfl <|
  bb_lift (fun _ => q_dup (zd (i := .dup) (n := 1) (by decide +kernel)) rfl) <|
  bb_geti (k := 292) (ci := 9) (j := 50) (idx := 308) (zd (i := .getfield 308) (n := 3) (by decide +kernel)) (by decide +kernel) (by decide +kernel) (by decide +kernel) (by decide +kernel) rfl g1178 <|
  bb_iload (i := 6) (zd (i := .iload 6) (n := 2) (by decide +kernel)) rfl <|
  bb_lift (fun _ => q_iadd (zd (i := .iadd) (n := 1) (by decide +kernel))) <|
  bb_puti (k := 292) (ci := 9) (j := 50) (idx := 308) (zd (i := .putfield 308) (n := 3) (by decide +kernel)) (by decide +kernel) (by decide +kernel) (by decide +kernel) (by decide +kernel) g1178 rfl rfl <|
  bb_aload_n (n := 0) (i := 0) (zd (i := .aload_n 0) (n := 1) (by decide +kernel)) rfl rfl <|
  bb_iload_n (n := 3) (i := 3) (zd (i := .iload_n 3) (n := 1) (by decide +kernel)) rfl rfl <|
  bb_callVV (idx := 396) (k := 292) (ci := 9) (N := n_X9_goes) (As := [.int a3]) (st := []) (zd (i := .invokevirtual 396) (n := 3) (by decide +kernel)) to_X9_goes g1546 g1548 g82 (Nat.le_of_ble_eq_true rfl) (by decide +kernel) (by decide +kernel) (by decide +kernel) rfl rfl rfl hc kk
theorem w_X9_year_69 {Q : qQ} {I : qMI} {L : qML} {R : qMR} (hR : wkR R) {a1 : Int32} {a2 : Int32} {a3 : Int32} {a4 : Int32} {a5 : Int32} {a6 : Int32} (h1 : vp_in ((24 + (6 * a1)) + a2) 97) (kt : (I 324 ((24 + (6 * a1)) + a2).toNatClampNeg) ≤ 0 → wkB l G (d + 1) n_X9_year Q 89 [.ref 292, .int a1, .int a2, .int a3, .int a4, .int a5, .int a6] [] I L R) (kf : ¬ (I 324 ((24 + (6 * a1)) + a2).toNatClampNeg) ≤ 0 → wkB l G (d + 1) n_X9_year Q 86 [.ref 292, .int a1, .int a2, .int a3, .int a4, .int a5, .int a6] [] I L R) : wkB l G (d + 1) n_X9_year Q 69 [.ref 292, .int a1, .int a2, .int a3, .int a4, .int a5, .int a6] [] I L R :=
  bb_aload_n (n := 0) (i := 0) (zd (i := .aload_n 0) (n := 1) (by decide +kernel)) rfl rfl <|
  bb_getr (k := 292) (ci := 9) (j := 49) (idx := 113) (a := 324) (zd (i := .getfield 113) (n := 3) (by decide +kernel)) (by decide +kernel) (by decide +kernel) (by decide +kernel) (by decide +kernel) rfl g1177 (hR 49 (by decide)) <|
  bb_lift (fun _ => q_bipush (n := 24) (zd (i := .bipush (24)) (n := 2) (by decide +kernel)) rfl) <|
  bb_lift (fun _ => q_bipush (n := 6) (zd (i := .bipush (6)) (n := 2) (by decide +kernel)) rfl) <|
  bb_iload_n (n := 1) (i := 1) (zd (i := .iload_n 1) (n := 1) (by decide +kernel)) rfl rfl <|
  bb_lift (fun _ => q_imul (zd (i := .imul) (n := 1) (by decide +kernel))) <|
  bb_lift (fun _ => q_iadd (zd (i := .iadd) (n := 1) (by decide +kernel))) <|
  bb_iload_n (n := 2) (i := 2) (zd (i := .iload_n 2) (n := 1) (by decide +kernel)) rfl rfl <|
  bb_lift (fun _ => q_iadd (zd (i := .iadd) (n := 1) (by decide +kernel))) <|
  bb_lift (fun _ => q_iald (k := 324) (zd (i := .iaload) (n := 1) (by decide +kernel)) (by decide +kernel) (by decide +kernel) h1) <|
  (fun lv hl => q_if_le (off := 6) (tgt := 89) (zd (i := .ifCond .le (6)) (n := 3) (by decide +kernel)) (by decide) (fun h => (kt h) lv hl) (fun h => (kf h) lv hl))
theorem w_X9_year_86 {Q : qQ} {I : qMI} {L : qML} {R : qMR} {a1 : Int32} {a2 : Int32} {a3 : Int32} {a4 : Int32} {a5 : Int32} {a6 : Int32} (k : wkB l G (d + 1) n_X9_year Q 89 [.ref 292, .int a1, .int a2, .int a3, .int a4, .int (a5 + 1), .int a6] [] I L R) : wkB l G (d + 1) n_X9_year Q 86 [.ref 292, .int a1, .int a2, .int a3, .int a4, .int a5, .int a6] [] I L R :=
  bb_iinc (i := 5) (n := 1) (zd (i := .iinc 5 (1)) (n := 3) (by decide +kernel)) rfl rfl (by decide +kernel) (wkNl_i rfl) <|
  k
theorem w_X9_year_89 {Q : qQ} {I : qMI} {L : qML} {R : qMR} {a1 : Int32} {a2 : Int32} {a3 : Int32} {a4 : Int32} {a5 : Int32} {a6 : Int32} (k : wkB l G (d + 1) n_X9_year Q 42 [.ref 292, .int a1, .int a2, .int a3, .int a4, .int a5, .int (a6 + 1)] [] I L R) : wkB l G (d + 1) n_X9_year Q 89 [.ref 292, .int a1, .int a2, .int a3, .int a4, .int a5, .int a6] [] I L R :=
  bb_iinc (i := 6) (n := 1) (zd (i := .iinc 6 (1)) (n := 3) (by decide +kernel)) rfl rfl (by decide +kernel) (wkNl_i rfl) <|
  bb_lift (fun _ => q_goto (off := -50) (tgt := 42) (zd (i := .goto (-50)) (n := 3) (by decide +kernel)) (by decide)) k
theorem w_X9_year_95 {Q : qQ} {I : qMI} {L : qML} {R : qMR} {a1 : Int32} {a2 : Int32} {a3 : Int32} {a4 : Int32} {a5 : Int32} {a6 : Int32} (hQ : Q (some (.int a5)) 336 I L R) : wkB l G (d + 1) n_X9_year Q 95 [.ref 292, .int a1, .int a2, .int a3, .int a4, .int a5, .int a6] [] I L R :=
  bb_iload (i := 5) (zd (i := .iload 5) (n := 2) (by decide +kernel)) rfl <|
  (fun lv hl => q_iret (zd (i := .ireturn) (n := 1) (by decide +kernel)) rfl rfl (Nat.le_refl _) (Nat.le_refl _) hQ)
theorem w_X9_isWatched_0 {Q : qQ} {I : qMI} {L : qML} {R : qMR} {a1 : Int32} {a2 : Int32} {a3 : Int32} (k : wkB l G (d + 1) n_X9_isWatched Q 3 [.ref 292, .int a1, .int a2, .int a3, .int 0] [] I L R) : wkB l G (d + 1) n_X9_isWatched Q 0 [.ref 292, .int a1, .int a2, .int a3, wkU] [] I L R :=
  bb_lift (fun _ => q_iconst (n := 0) (zd (i := .iconst (0)) (n := 1) (by decide +kernel)) rfl) <|
  bb_istore (i := 4) (zd (i := .istore 4) (n := 2) (by decide +kernel)) (by decide +kernel) (wkNl_i rfl) <|
  k
theorem w_X9_isWatched_3 {Q : qQ} {I : qMI} {L : qML} {R : qMR} (hR : wkR R) {a1 : Int32} {a2 : Int32} {a3 : Int32} {a4 : Int32} (h1 : vp_in (I 292 18) 2) (kt : (I 304 (I 292 18).toNatClampNeg) ≤ a4 → wkB l G (d + 1) n_X9_isWatched Q 42 [.ref 292, .int a1, .int a2, .int a3, .int a4] [] I L R) (kf : ¬ (I 304 (I 292 18).toNatClampNeg) ≤ a4 → wkB l G (d + 1) n_X9_isWatched Q 17 [.ref 292, .int a1, .int a2, .int a3, .int a4] [] I L R) : wkB l G (d + 1) n_X9_isWatched Q 3 [.ref 292, .int a1, .int a2, .int a3, .int a4] [] I L R :=
  bb_iload (i := 4) (zd (i := .iload 4) (n := 2) (by decide +kernel)) rfl <|
  bb_aload_n (n := 0) (i := 0) (zd (i := .aload_n 0) (n := 1) (by decide +kernel)) rfl rfl <|
  bb_getr (k := 292) (ci := 9) (j := 25) (idx := 52) (a := 304) (zd (i := .getfield 52) (n := 3) (by decide +kernel)) (by decide +kernel) (by decide +kernel) (by decide +kernel) (by decide +kernel) rfl g1153 (hR 25 (by decide)) <|
  bb_aload_n (n := 0) (i := 0) (zd (i := .aload_n 0) (n := 1) (by decide +kernel)) rfl rfl <|
  bb_geti (k := 292) (ci := 9) (j := 18) (idx := 230) (zd (i := .getfield 230) (n := 3) (by decide +kernel)) (by decide +kernel) (by decide +kernel) (by decide +kernel) (by decide +kernel) rfl g1146 <|
  bb_lift (fun _ => q_iald (k := 304) (zd (i := .iaload) (n := 1) (by decide +kernel)) (by decide +kernel) (by decide +kernel) h1) <|
  (fun lv hl => q_icmp_ge (off := 28) (tgt := 42) (zd (i := .if_icmp .ge (28)) (n := 3) (by decide +kernel)) (by decide) (fun h => (kt h) lv hl) (fun h => (kf h) lv hl))
theorem w_X9_isWatched_17 {Q : qQ} {I : qMI} {L : qML} {R : qMR} (hR : wkR R) {a1 : Int32} {a2 : Int32} {a3 : Int32} {a4 : Int32} (h1 : vp_in a4 97) {P : Int32 → qMI → qML → Prop} (hc : wkI l G d n_X9_isSeen [.ref 292, .int (I 323 a4.toNatClampNeg), .int a1, .int a2, .int a3] I L R P) (kk : ∀ y I' L', P y I' L' → wkB l G (d + 1) n_X9_isWatched Q 31 [.ref 292, .int a1, .int a2, .int a3, .int a4] [.int y] I' L' R) : wkB l G (d + 1) n_X9_isWatched Q 17 [.ref 292, .int a1, .int a2, .int a3, .int a4] [] I L R :=
  bb_aload_n (n := 0) (i := 0) (zd (i := .aload_n 0) (n := 1) (by decide +kernel)) rfl rfl <|
  bb_aload_n (n := 0) (i := 0) (zd (i := .aload_n 0) (n := 1) (by decide +kernel)) rfl rfl <|
  bb_getr (k := 292) (ci := 9) (j := 48) (idx := 110) (a := 323) (zd (i := .getfield 110) (n := 3) (by decide +kernel)) (by decide +kernel) (by decide +kernel) (by decide +kernel) (by decide +kernel) rfl g1176 (hR 48 (by decide)) <|
  bb_iload (i := 4) (zd (i := .iload 4) (n := 2) (by decide +kernel)) rfl <|
  bb_lift (fun _ => q_iald (k := 323) (zd (i := .iaload) (n := 1) (by decide +kernel)) (by decide +kernel) (by decide +kernel) h1) <|
  bb_iload_n (n := 1) (i := 1) (zd (i := .iload_n 1) (n := 1) (by decide +kernel)) rfl rfl <|
  bb_iload_n (n := 2) (i := 2) (zd (i := .iload_n 2) (n := 1) (by decide +kernel)) rfl rfl <|
  bb_iload_n (n := 3) (i := 3) (zd (i := .iload_n 3) (n := 1) (by decide +kernel)) rfl rfl <|
  bb_callVI (idx := 337) (k := 292) (ci := 9) (N := n_X9_isSeen) (As := [.int (I 323 a4.toNatClampNeg), .int a1, .int a2, .int a3]) (st := []) (zd (i := .invokevirtual 337) (n := 3) (by decide +kernel)) to_X9_isSeen g1453 g1455 g69 (Nat.le_of_ble_eq_true rfl) (by decide +kernel) (by decide +kernel) (by decide +kernel) rfl rfl rfl hc kk
theorem w_X9_isWatched_31 {Q : qQ} {I : qMI} {L : qML} {R : qMR} {a1 : Int32} {a2 : Int32} {a3 : Int32} {a4 : Int32} {s0 : Int32} (kt : s0 = 0 → wkB l G (d + 1) n_X9_isWatched Q 36 [.ref 292, .int a1, .int a2, .int a3, .int a4] [] I L R) (kf : ¬ s0 = 0 → wkB l G (d + 1) n_X9_isWatched Q 34 [.ref 292, .int a1, .int a2, .int a3, .int a4] [] I L R) : wkB l G (d + 1) n_X9_isWatched Q 31 [.ref 292, .int a1, .int a2, .int a3, .int a4] [.int s0] I L R :=
  (fun lv hl => q_if_eq (off := 5) (tgt := 36) (zd (i := .ifCond .eq (5)) (n := 3) (by decide +kernel)) (by decide) (fun h => (kt h) lv hl) (fun h => (kf h) lv hl))
theorem w_X9_isWatched_34 {Q : qQ} {I : qMI} {L : qML} {R : qMR} {a1 : Int32} {a2 : Int32} {a3 : Int32} {a4 : Int32} (hQ : Q (some (.int 1)) 336 I L R) : wkB l G (d + 1) n_X9_isWatched Q 34 [.ref 292, .int a1, .int a2, .int a3, .int a4] [] I L R :=
  bb_lift (fun _ => q_iconst (n := 1) (zd (i := .iconst (1)) (n := 1) (by decide +kernel)) rfl) <|
  (fun lv hl => q_iret (zd (i := .ireturn) (n := 1) (by decide +kernel)) rfl rfl (Nat.le_refl _) (Nat.le_refl _) hQ)
theorem w_X9_isWatched_36 {Q : qQ} {I : qMI} {L : qML} {R : qMR} {a1 : Int32} {a2 : Int32} {a3 : Int32} {a4 : Int32} (k : wkB l G (d + 1) n_X9_isWatched Q 3 [.ref 292, .int a1, .int a2, .int a3, .int (a4 + 1)] [] I L R) : wkB l G (d + 1) n_X9_isWatched Q 36 [.ref 292, .int a1, .int a2, .int a3, .int a4] [] I L R :=
  bb_iinc (i := 4) (n := 1) (zd (i := .iinc 4 (1)) (n := 3) (by decide +kernel)) rfl rfl (by decide +kernel) (wkNl_i rfl) <|
  bb_lift (fun _ => q_goto (off := -36) (tgt := 3) (zd (i := .goto (-36)) (n := 3) (by decide +kernel)) (by decide)) k
theorem w_X9_isWatched_42 {Q : qQ} {I : qMI} {L : qML} {R : qMR} {a1 : Int32} {a2 : Int32} {a3 : Int32} {a4 : Int32} (hQ : Q (some (.int 0)) 336 I L R) : wkB l G (d + 1) n_X9_isWatched Q 42 [.ref 292, .int a1, .int a2, .int a3, .int a4] [] I L R :=
  bb_lift (fun _ => q_iconst (n := 0) (zd (i := .iconst (0)) (n := 1) (by decide +kernel)) rfl) <|
  (fun lv hl => q_iret (zd (i := .ireturn) (n := 1) (by decide +kernel)) rfl rfl (Nat.le_refl _) (Nat.le_refl _) hQ)
end
