section
variable {l : Launch} {G : qG} {d : Nat}
theorem w_X9_isSome_0 {Q : qQ} {I : qMI} {L : qML} {R : qMR} {a0 : Int32} {P : Int32 → qMI → qML → Prop} (hc : wkI l G d n_X9_in [.int a0, .int 1, .int 48] I L R P) (kk : ∀ y I' L', P y I' L' → wkB l G (d + 1) n_X9_isSome Q 7 [.int a0] [.int y] I' L' R) : wkB l G (d + 1) n_X9_isSome Q 0 [.int a0] [] I L R :=
  bb_iload_n (n := 0) (i := 0) (zd (i := .iload_n 0) (n := 1) (by decide +kernel)) rfl rfl <|
  bb_lift (fun _ => q_iconst (n := 1) (zd (i := .iconst (1)) (n := 1) (by decide +kernel)) rfl) <|
  bb_lift (fun _ => q_bipush (n := 48) (zd (i := .bipush (48)) (n := 2) (by decide +kernel)) rfl) <|
  bb_callSI (idx := 304) (N := n_X9_in) (As := [.int a0, .int 1, .int 48]) (st := []) (zd (i := .invokestatic 304) (n := 3) (by decide +kernel)) to_X9_in g1442 g1443 (Nat.le_of_ble_eq_true rfl) rfl rfl hc kk
theorem w_X9_isSome_7 {Q : qQ} {I : qMI} {L : qML} {R : qMR} {a0 : Int32} {s0 : Int32} (hQ : Q (some (.int s0)) 336 I L R) (h1 : s0 = 0 ∨ s0 = 1) : wkB l G (d + 1) n_X9_isSome Q 7 [.int a0] [.int s0] I L R :=
  (fun lv hl => q_iret (zd (i := .ireturn) (n := 1) (by decide +kernel)) rfl (by rcases h1 with e | e <;> rw [e] <;> rfl) (Nat.le_refl _) (Nat.le_refl _) hQ)
theorem w_X9_clash_0 {Q : qQ} {I : qMI} {L : qML} {R : qMR} {a1 : Int32} {P : Int32 → qMI → qML → Prop} (hc : wkI l G d n_X9_in [.int a1, .int 0, .int 1] I L R P) (kk : ∀ y I' L', P y I' L' → wkB l G (d + 1) n_X9_clash Q 6 [.ref 292, .int a1, wkU, wkU, wkU, wkU] [.int y] I' L' R) : wkB l G (d + 1) n_X9_clash Q 0 [.ref 292, .int a1, wkU, wkU, wkU, wkU] [] I L R :=
  bb_iload_n (n := 1) (i := 1) (zd (i := .iload_n 1) (n := 1) (by decide +kernel)) rfl rfl <|
  bb_lift (fun _ => q_iconst (n := 0) (zd (i := .iconst (0)) (n := 1) (by decide +kernel)) rfl) <|
  bb_lift (fun _ => q_iconst (n := 1) (zd (i := .iconst (1)) (n := 1) (by decide +kernel)) rfl) <|
  bb_callSI (idx := 304) (N := n_X9_in) (As := [.int a1, .int 0, .int 1]) (st := []) (zd (i := .invokestatic 304) (n := 3) (by decide +kernel)) to_X9_in g1442 g1443 (Nat.le_of_ble_eq_true rfl) rfl rfl hc kk
theorem w_X9_clash_6 {Q : qQ} {I : qMI} {L : qML} {R : qMR} {a1 : Int32} {s0 : Int32} (kt : ¬ s0 = 0 → wkB l G (d + 1) n_X9_clash Q 11 [.ref 292, .int a1, wkU, wkU, wkU, wkU] [] I L R) (kf : s0 = 0 → wkB l G (d + 1) n_X9_clash Q 9 [.ref 292, .int a1, wkU, wkU, wkU, wkU] [] I L R) : wkB l G (d + 1) n_X9_clash Q 6 [.ref 292, .int a1, wkU, wkU, wkU, wkU] [.int s0] I L R :=
  (fun lv hl => q_if_ne (off := 5) (tgt := 11) (zd (i := .ifCond .ne (5)) (n := 3) (by decide +kernel)) (by decide) (fun h => (kt h) lv hl) (fun h => (kf h) lv hl))
theorem w_X9_clash_9 {Q : qQ} {I : qMI} {L : qML} {R : qMR} {a1 : Int32} (hQ : Q (some (.int (-1))) 336 I L R) : wkB l G (d + 1) n_X9_clash Q 9 [.ref 292, .int a1, wkU, wkU, wkU, wkU] [] I L R :=
  bb_lift (fun _ => q_iconst (n := -1) (zd (i := .iconst (-1)) (n := 1) (by decide +kernel)) rfl) <|
  (fun lv hl => q_iret (zd (i := .ireturn) (n := 1) (by decide +kernel)) rfl rfl (Nat.le_refl _) (Nat.le_refl _) hQ)
theorem w_X9_clash_11 {Q : qQ} {I : qMI} {L : qML} {R : qMR} {a1 : Int32} {P : qMI → qML → Prop} (hc : wkV l G d n_X9_copies [.ref 292] I L R P) (kk : ∀ I' L', P I' L' → wkB l G (d + 1) n_X9_clash Q 15 [.ref 292, .int a1, wkU, wkU, wkU, wkU] [] I' L' R) : wkB l G (d + 1) n_X9_clash Q 11 [.ref 292, .int a1, wkU, wkU, wkU, wkU] [] I L R :=
  bb_aload_n (n := 0) (i := 0) (zd (i := .aload_n 0) (n := 1) (by decide +kernel)) rfl rfl <|
  bb_callVV (idx := 375) (k := 292) (ci := 9) (N := n_X9_copies) (As := []) (st := []) (zd (i := .invokevirtual 375) (n := 3) (by decide +kernel)) to_X9_copies g1445 g1447 g67 (Nat.le_of_ble_eq_true rfl) (by decide +kernel) (by decide +kernel) (by decide +kernel) rfl rfl rfl hc kk
theorem w_X9_clash_15 {Q : qQ} {I : qMI} {L : qML} {R : qMR} {a1 : Int32} (k : wkB l G (d + 1) n_X9_clash Q 23 [.ref 292, .int a1, .int 0, .int (-2), .int 0, wkU] [] I L R) : wkB l G (d + 1) n_X9_clash Q 15 [.ref 292, .int a1, wkU, wkU, wkU, wkU] [] I L R :=
  bb_lift (fun _ => q_iconst (n := 0) (zd (i := .iconst (0)) (n := 1) (by decide +kernel)) rfl) <|
  bb_istore_n (n := 2) (i := 2) (zd (i := .istore_n 2) (n := 1) (by decide +kernel)) rfl (by decide +kernel) (wkNl_i rfl) <|
  bb_lift (fun _ => q_bipush (n := -2) (zd (i := .bipush (-2)) (n := 2) (by decide +kernel)) rfl) <|
  bb_istore_n (n := 3) (i := 3) (zd (i := .istore_n 3) (n := 1) (by decide +kernel)) rfl (by decide +kernel) (wkNl_i rfl) <|
  bb_lift (fun _ => q_iconst (n := 0) (zd (i := .iconst (0)) (n := 1) (by decide +kernel)) rfl) <|
  bb_istore (i := 4) (zd (i := .istore 4) (n := 2) (by decide +kernel)) (by decide +kernel) (wkNl_i rfl) <|
  k
theorem w_X9_clash_23 {Q : qQ} {I : qMI} {L : qML} {R : qMR} (hR : wkR R) {a1 : Int32} {a2 : Int32} {a3 : Int32} {a4 : Int32} (h1 : vp_in (I 292 18) 2) (kt : (I 304 (I 292 18).toNatClampNeg) ≤ a4 → wkB l G (d + 1) n_X9_clash Q 99 [.ref 292, .int a1, .int a2, .int a3, .int a4, wkU] [] I L R) (kf : ¬ (I 304 (I 292 18).toNatClampNeg) ≤ a4 → wkB l G (d + 1) n_X9_clash Q 37 [.ref 292, .int a1, .int a2, .int a3, .int a4, wkU] [] I L R) : wkB l G (d + 1) n_X9_clash Q 23 [.ref 292, .int a1, .int a2, .int a3, .int a4, wkU] [] I L R :=
  bb_iload (i := 4) (zd (i := .iload 4) (n := 2) (by decide +kernel)) rfl <|
  bb_aload_n (n := 0) (i := 0) (zd (i := .aload_n 0) (n := 1) (by decide +kernel)) rfl rfl <|
  bb_getr (k := 292) (ci := 9) (j := 25) (idx := 52) (a := 304) (zd (i := .getfield 52) (n := 3) (by decide +kernel)) (by decide +kernel) (by decide +kernel) (by decide +kernel) (by decide +kernel) rfl g1153 (hR 25 (by decide)) <|
  bb_aload_n (n := 0) (i := 0) (zd (i := .aload_n 0) (n := 1) (by decide +kernel)) rfl rfl <|
  bb_geti (k := 292) (ci := 9) (j := 18) (idx := 230) (zd (i := .getfield 230) (n := 3) (by decide +kernel)) (by decide +kernel) (by decide +kernel) (by decide +kernel) (by decide +kernel) rfl g1146 <|
  bb_lift (fun _ => q_iald (k := 304) (zd (i := .iaload) (n := 1) (by decide +kernel)) (by decide +kernel) (by decide +kernel) h1) <|
  (fun lv hl => q_icmp_ge (off := 65) (tgt := 99) (zd (i := .if_icmp .ge (65)) (n := 3) (by decide +kernel)) (by decide) (fun h => (kt h) lv hl) (fun h => (kf h) lv hl))
theorem w_X9_clash_37 {Q : qQ} {I : qMI} {L : qML} {R : qMR} {a1 : Int32} {a2 : Int32} {a3 : Int32} {a4 : Int32} (k : wkB l G (d + 1) n_X9_clash Q 43 [.ref 292, .int a1, .int a2, .int a3, .int a4, .int (a4 + 1)] [] I L R) : wkB l G (d + 1) n_X9_clash Q 37 [.ref 292, .int a1, .int a2, .int a3, .int a4, wkU] [] I L R :=
  bb_iload (i := 4) (zd (i := .iload 4) (n := 2) (by decide +kernel)) rfl <|
  bb_lift (fun _ => q_iconst (n := 1) (zd (i := .iconst (1)) (n := 1) (by decide +kernel)) rfl) <|
  bb_lift (fun _ => q_iadd (zd (i := .iadd) (n := 1) (by decide +kernel))) <|
  bb_istore (i := 5) (zd (i := .istore 5) (n := 2) (by decide +kernel)) (by decide +kernel) (wkNl_i rfl) <|
  k
theorem w_X9_clash_43 {Q : qQ} {I : qMI} {L : qML} {R : qMR} (hR : wkR R) {a1 : Int32} {a2 : Int32} {a3 : Int32} {a4 : Int32} {a5 : Int32} (h1 : vp_in (I 292 18) 2) (kt : (I 304 (I 292 18).toNatClampNeg) ≤ a5 → wkB l G (d + 1) n_X9_clash Q 93 [.ref 292, .int a1, .int a2, .int a3, .int a4, .int a5] [] I L R) (kf : ¬ (I 304 (I 292 18).toNatClampNeg) ≤ a5 → wkB l G (d + 1) n_X9_clash Q 57 [.ref 292, .int a1, .int a2, .int a3, .int a4, .int a5] [] I L R) : wkB l G (d + 1) n_X9_clash Q 43 [.ref 292, .int a1, .int a2, .int a3, .int a4, .int a5] [] I L R :=
  bb_iload (i := 5) (zd (i := .iload 5) (n := 2) (by decide +kernel)) rfl <|
  bb_aload_n (n := 0) (i := 0) (zd (i := .aload_n 0) (n := 1) (by decide +kernel)) rfl rfl <|
  bb_getr (k := 292) (ci := 9) (j := 25) (idx := 52) (a := 304) (zd (i := .getfield 52) (n := 3) (by decide +kernel)) (by decide +kernel) (by decide +kernel) (by decide +kernel) (by decide +kernel) rfl g1153 (hR 25 (by decide)) <|
  bb_aload_n (n := 0) (i := 0) (zd (i := .aload_n 0) (n := 1) (by decide +kernel)) rfl rfl <|
  bb_geti (k := 292) (ci := 9) (j := 18) (idx := 230) (zd (i := .getfield 230) (n := 3) (by decide +kernel)) (by decide +kernel) (by decide +kernel) (by decide +kernel) (by decide +kernel) rfl g1146 <|
  bb_lift (fun _ => q_iald (k := 304) (zd (i := .iaload) (n := 1) (by decide +kernel)) (by decide +kernel) (by decide +kernel) h1) <|
  (fun lv hl => q_icmp_ge (off := 39) (tgt := 93) (zd (i := .if_icmp .ge (39)) (n := 3) (by decide +kernel)) (by decide) (fun h => (kt h) lv hl) (fun h => (kf h) lv hl))
theorem w_X9_clash_57 {Q : qQ} {I : qMI} {L : qML} {R : qMR} {a1 : Int32} {a2 : Int32} {a3 : Int32} {a4 : Int32} {a5 : Int32} {P : Int32 → qMI → qML → Prop} (hc : wkI l G d n_X9_doClash [.ref 292, .int a4, .int a5] I L R P) (kk : ∀ y I' L', P y I' L' → wkB l G (d + 1) n_X9_clash Q 65 [.ref 292, .int a1, .int a2, .int a3, .int a4, .int a5] [.int y] I' L' R) : wkB l G (d + 1) n_X9_clash Q 57 [.ref 292, .int a1, .int a2, .int a3, .int a4, .int a5] [] I L R :=
  bb_aload_n (n := 0) (i := 0) (zd (i := .aload_n 0) (n := 1) (by decide +kernel)) rfl rfl <|
  bb_iload (i := 4) (zd (i := .iload 4) (n := 2) (by decide +kernel)) rfl <|
  bb_iload (i := 5) (zd (i := .iload 5) (n := 2) (by decide +kernel)) rfl <|
  bb_callVI (idx := 402) (k := 292) (ci := 9) (N := n_X9_doClash) (As := [.int a4, .int a5]) (st := []) (zd (i := .invokevirtual 402) (n := 3) (by decide +kernel)) to_X9_doClash g1590 g1592 g89 (Nat.le_of_ble_eq_true rfl) (by decide +kernel) (by decide +kernel) (by decide +kernel) rfl rfl rfl hc kk
theorem w_X9_clash_65 {Q : qQ} {I : qMI} {L : qML} {R : qMR} {a1 : Int32} {a2 : Int32} {a3 : Int32} {a4 : Int32} {a5 : Int32} {s0 : Int32} (kt : ¬ s0 = 0 → wkB l G (d + 1) n_X9_clash Q 71 [.ref 292, .int a1, .int a2, .int a3, .int a4, .int a5] [] I L R) (kf : s0 = 0 → wkB l G (d + 1) n_X9_clash Q 68 [.ref 292, .int a1, .int a2, .int a3, .int a4, .int a5] [] I L R) : wkB l G (d + 1) n_X9_clash Q 65 [.ref 292, .int a1, .int a2, .int a3, .int a4, .int a5] [.int s0] I L R :=
  (fun lv hl => q_if_ne (off := 6) (tgt := 71) (zd (i := .ifCond .ne (6)) (n := 3) (by decide +kernel)) (by decide) (fun h => (kt h) lv hl) (fun h => (kf h) lv hl))
theorem w_X9_clash_68 {Q : qQ} {I : qMI} {L : qML} {R : qMR} {a1 : Int32} {a2 : Int32} {a3 : Int32} {a4 : Int32} {a5 : Int32} (k : wkB l G (d + 1) n_X9_clash Q 87 [.ref 292, .int a1, .int a2, .int a3, .int a4, .int a5] [] I L R) : wkB l G (d + 1) n_X9_clash Q 68 [.ref 292, .int a1, .int a2, .int a3, .int a4, .int a5] [] I L R :=
  bb_lift (fun _ => q_goto (off := 19) (tgt := 87) (zd (i := .goto (19)) (n := 3) (by decide +kernel)) (by decide)) k
theorem w_X9_clash_71 {Q : qQ} {I : qMI} {L : qML} {R : qMR} {a1 : Int32} {a2 : Int32} {a3 : Int32} {a4 : Int32} {a5 : Int32} (kt : 0 ≤ a3 → wkB l G (d + 1) n_X9_clash Q 87 [.ref 292, .int a1, .int (a2 + 1), .int a3, .int a4, .int a5] [] I L R) (kf : ¬ 0 ≤ a3 → wkB l G (d + 1) n_X9_clash Q 78 [.ref 292, .int a1, .int (a2 + 1), .int a3, .int a4, .int a5] [] I L R) : wkB l G (d + 1) n_X9_clash Q 71 [.ref 292, .int a1, .int a2, .int a3, .int a4, .int a5] [] I L R :=
  bb_iinc (i := 2) (n := 1) (zd (i := .iinc 2 (1)) (n := 3) (by decide +kernel)) rfl rfl (by decide +kernel) (wkNl_i rfl) <|
  bb_iload_n (n := 3) (i := 3) (zd (i := .iload_n 3) (n := 1) (by decide +kernel)) rfl rfl <|
  (fun lv hl => q_if_ge (off := 12) (tgt := 87) (zd (i := .ifCond .ge (12)) (n := 3) (by decide +kernel)) (by decide) (fun h => (kt h) lv hl) (fun h => (kf h) lv hl))
theorem w_X9_clash_78 {Q : qQ} {I : qMI} {L : qML} {R : qMR} {a1 : Int32} {a2 : Int32} {a3 : Int32} {a4 : Int32} {a5 : Int32} (k : wkB l G (d + 1) n_X9_clash Q 87 [.ref 292, .int a1, .int a2, .int ((10 * a4) + a5), .int a4, .int a5] [] I L R) : wkB l G (d + 1) n_X9_clash Q 78 [.ref 292, .int a1, .int a2, .int a3, .int a4, .int a5] [] I L R :=
  bb_lift (fun _ => q_bipush (n := 10) (zd (i := .bipush (10)) (n := 2) (by decide +kernel)) rfl) <|
  bb_iload (i := 4) (zd (i := .iload 4) (n := 2) (by decide +kernel)) rfl <|
  bb_lift (fun _ => q_imul (zd (i := .imul) (n := 1) (by decide +kernel))) <|
  bb_iload (i := 5) (zd (i := .iload 5) (n := 2) (by decide +kernel)) rfl <|
  bb_lift (fun _ => q_iadd (zd (i := .iadd) (n := 1) (by decide +kernel))) <|
  bb_istore_n (n := 3) (i := 3) (zd (i := .istore_n 3) (n := 1) (by decide +kernel)) rfl (by decide +kernel) (wkNl_i rfl) <|
  k
theorem w_X9_clash_87 {Q : qQ} {I : qMI} {L : qML} {R : qMR} {a1 : Int32} {a2 : Int32} {a3 : Int32} {a4 : Int32} {a5 : Int32} (k : wkB l G (d + 1) n_X9_clash Q 43 [.ref 292, .int a1, .int a2, .int a3, .int a4, .int (a5 + 1)] [] I L R) : wkB l G (d + 1) n_X9_clash Q 87 [.ref 292, .int a1, .int a2, .int a3, .int a4, .int a5] [] I L R :=
  bb_iinc (i := 5) (n := 1) (zd (i := .iinc 5 (1)) (n := 3) (by decide +kernel)) rfl rfl (by decide +kernel) (wkNl_i rfl) <|
  bb_lift (fun _ => q_goto (off := -47) (tgt := 43) (zd (i := .goto (-47)) (n := 3) (by decide +kernel)) (by decide)) k
theorem w_X9_clash_93 {Q : qQ} {I : qMI} {L : qML} {R : qMR} {a1 : Int32} {a2 : Int32} {a3 : Int32} {a4 : Int32} {a5 : Int32} (k : wkB l G (d + 1) n_X9_clash Q 23 [.ref 292, .int a1, .int a2, .int a3, .int (a4 + 1), wkU] [] I L R) : wkB l G (d + 1) n_X9_clash Q 93 [.ref 292, .int a1, .int a2, .int a3, .int a4, .int a5] [] I L R :=
  bb_iinc (i := 4) (n := 1) (zd (i := .iinc 4 (1)) (n := 3) (by decide +kernel)) rfl rfl (by decide +kernel) (wkNl_i rfl) <|
  bb_lift (fun _ => q_goto (off := -73) (tgt := 23) (zd (i := .goto (-73)) (n := 3) (by decide +kernel)) (by decide)) (wkB_le (vs := [.ref 292, .int a1, .int a2, .int a3, .int (a4 + 1), wkU]) (ws := [.ref 292, .int a1, .int a2, .int a3, .int (a4 + 1), .int a5]) ⟨Or.inr rfl, Or.inr rfl, Or.inr rfl, Or.inr rfl, Or.inr rfl, Or.inl rfl, trivial⟩ (k))
theorem w_X9_clash_99 {Q : qQ} {I : qMI} {L : qML} {R : qMR} {a1 : Int32} {a2 : Int32} {a3 : Int32} {a4 : Int32} (kt : ¬ a1 = 0 → wkB l G (d + 1) n_X9_clash Q 107 [.ref 292, .int a1, .int a2, .int a3, .int a4, wkU] [] I L R) (kf : a1 = 0 → wkB l G (d + 1) n_X9_clash Q 103 [.ref 292, .int a1, .int a2, .int a3, .int a4, wkU] [] I L R) : wkB l G (d + 1) n_X9_clash Q 99 [.ref 292, .int a1, .int a2, .int a3, .int a4, wkU] [] I L R :=
  bb_iload_n (n := 1) (i := 1) (zd (i := .iload_n 1) (n := 1) (by decide +kernel)) rfl rfl <|
  (fun lv hl => q_if_ne (off := 7) (tgt := 107) (zd (i := .ifCond .ne (7)) (n := 3) (by decide +kernel)) (by decide) (fun h => (kt h) lv hl) (fun h => (kf h) lv hl))
theorem w_X9_clash_103 {Q : qQ} {I : qMI} {L : qML} {R : qMR} {a1 : Int32} {a2 : Int32} {a3 : Int32} {a4 : Int32} (k : wkB l G (d + 1) n_X9_clash Q 108 [.ref 292, .int a1, .int a2, .int a3, .int a4, wkU] [.int a2] I L R) : wkB l G (d + 1) n_X9_clash Q 103 [.ref 292, .int a1, .int a2, .int a3, .int a4, wkU] [] I L R :=
  bb_iload_n (n := 2) (i := 2) (zd (i := .iload_n 2) (n := 1) (by decide +kernel)) rfl rfl <|
  bb_lift (fun _ => q_goto (off := 4) (tgt := 108) (zd (i := .goto (4)) (n := 3) (by decide +kernel)) (by decide)) k
theorem w_X9_clash_107 {Q : qQ} {I : qMI} {L : qML} {R : qMR} {a1 : Int32} {a2 : Int32} {a3 : Int32} {a4 : Int32} (k : wkB l G (d + 1) n_X9_clash Q 108 [.ref 292, .int a1, .int a2, .int a3, .int a4, wkU] [.int a3] I L R) : wkB l G (d + 1) n_X9_clash Q 107 [.ref 292, .int a1, .int a2, .int a3, .int a4, wkU] [] I L R :=
  bb_iload_n (n := 3) (i := 3) (zd (i := .iload_n 3) (n := 1) (by decide +kernel)) rfl rfl <|
  k
theorem w_X9_clash_108 {Q : qQ} {I : qMI} {L : qML} {R : qMR} {a1 : Int32} {a2 : Int32} {a3 : Int32} {a4 : Int32} {s0 : Int32} (hQ : Q (some (.int s0)) 336 I L R) : wkB l G (d + 1) n_X9_clash Q 108 [.ref 292, .int a1, .int a2, .int a3, .int a4, wkU] [.int s0] I L R :=
  (fun lv hl => q_iret (zd (i := .ireturn) (n := 1) (by decide +kernel)) rfl rfl (Nat.le_refl _) (Nat.le_refl _) hQ)
theorem w_X9_doClash_0 {Q : qQ} {I : qMI} {L : qML} {R : qMR} {a1 : Int32} {a2 : Int32} (k : wkB l G (d + 1) n_X9_doClash Q 2 [.ref 292, .int a1, .int a2, .int 0, wkU, wkU] [] I L R) : wkB l G (d + 1) n_X9_doClash Q 0 [.ref 292, .int a1, .int a2, wkU, wkU, wkU] [] I L R :=
  bb_lift (fun _ => q_iconst (n := 0) (zd (i := .iconst (0)) (n := 1) (by decide +kernel)) rfl) <|
  bb_istore_n (n := 3) (i := 3) (zd (i := .istore_n 3) (n := 1) (by decide +kernel)) rfl (by decide +kernel) (wkNl_i rfl) <|
  k
theorem w_X9_doClash_2 {Q : qQ} {I : qMI} {L : qML} {R : qMR} (hR : wkR R) {a1 : Int32} {a2 : Int32} {a3 : Int32} (h1 : vp_in (I 292 18) 2) (kt : (I 301 (I 292 18).toNatClampNeg) ≤ a3 → wkB l G (d + 1) n_X9_doClash Q 141 [.ref 292, .int a1, .int a2, .int a3, wkU, wkU] [] I L R) (kf : ¬ (I 301 (I 292 18).toNatClampNeg) ≤ a3 → wkB l G (d + 1) n_X9_doClash Q 15 [.ref 292, .int a1, .int a2, .int a3, wkU, wkU] [] I L R) : wkB l G (d + 1) n_X9_doClash Q 2 [.ref 292, .int a1, .int a2, .int a3, wkU, wkU] [] I L R :=
  bb_iload_n (n := 3) (i := 3) (zd (i := .iload_n 3) (n := 1) (by decide +kernel)) rfl rfl <|
  bb_aload_n (n := 0) (i := 0) (zd (i := .aload_n 0) (n := 1) (by decide +kernel)) rfl rfl <|
  bb_getr (k := 292) (ci := 9) (j := 22) (idx := 43) (a := 301) (zd (i := .getfield 43) (n := 3) (by decide +kernel)) (by decide +kernel) (by decide +kernel) (by decide +kernel) (by decide +kernel) rfl g1150 (hR 22 (by decide)) <|
  bb_aload_n (n := 0) (i := 0) (zd (i := .aload_n 0) (n := 1) (by decide +kernel)) rfl rfl <|
  bb_geti (k := 292) (ci := 9) (j := 18) (idx := 230) (zd (i := .getfield 230) (n := 3) (by decide +kernel)) (by decide +kernel) (by decide +kernel) (by decide +kernel) (by decide +kernel) rfl g1146 <|
  bb_lift (fun _ => q_iald (k := 301) (zd (i := .iaload) (n := 1) (by decide +kernel)) (by decide +kernel) (by decide +kernel) h1) <|
  (fun lv hl => q_icmp_ge (off := 129) (tgt := 141) (zd (i := .if_icmp .ge (129)) (n := 3) (by decide +kernel)) (by decide) (fun h => (kt h) lv hl) (fun h => (kf h) lv hl))
theorem w_X9_doClash_15 {Q : qQ} {I : qMI} {L : qML} {R : qMR} (hR : wkR R) {a1 : Int32} {a2 : Int32} {a3 : Int32} (h1 : vp_in ((24 + (6 * a1)) + a3) 97) (kt : (I 324 ((24 + (6 * a1)) + a3).toNatClampNeg) ≤ 0 → wkB l G (d + 1) n_X9_doClash Q 53 [.ref 292, .int a1, .int a2, .int a3, wkU, wkU] [] I L R) (kf : ¬ (I 324 ((24 + (6 * a1)) + a3).toNatClampNeg) ≤ 0 → wkB l G (d + 1) n_X9_doClash Q 32 [.ref 292, .int a1, .int a2, .int a3, wkU, wkU] [] I L R) : wkB l G (d + 1) n_X9_doClash Q 15 [.ref 292, .int a1, .int a2, .int a3, wkU, wkU] [] I L R :=
  bb_aload_n (n := 0) (i := 0) (zd (i := .aload_n 0) (n := 1) (by decide +kernel)) rfl rfl <|
  bb_getr (k := 292) (ci := 9) (j := 49) (idx := 113) (a := 324) (zd (i := .getfield 113) (n := 3) (by decide +kernel)) (by decide +kernel) (by decide +kernel) (by decide +kernel) (by decide +kernel) rfl g1177 (hR 49 (by decide)) <|
  bb_lift (fun _ => q_bipush (n := 24) (zd (i := .bipush (24)) (n := 2) (by decide +kernel)) rfl) <|
  bb_lift (fun _ => q_bipush (n := 6) (zd (i := .bipush (6)) (n := 2) (by decide +kernel)) rfl) <|
  bb_iload_n (n := 1) (i := 1) (zd (i := .iload_n 1) (n := 1) (by decide +kernel)) rfl rfl <|
  bb_lift (fun _ => q_imul (zd (i := .imul) (n := 1) (by decide +kernel))) <|
  bb_lift (fun _ => q_iadd (zd (i := .iadd) (n := 1) (by decide +kernel))) <|
  bb_iload_n (n := 3) (i := 3) (zd (i := .iload_n 3) (n := 1) (by decide +kernel)) rfl rfl <|
  bb_lift (fun _ => q_iadd (zd (i := .iadd) (n := 1) (by decide +kernel))) <|
  bb_lift (fun _ => q_iald (k := 324) (zd (i := .iaload) (n := 1) (by decide +kernel)) (by decide +kernel) (by decide +kernel) h1) <|
  (fun lv hl => q_if_le (off := 24) (tgt := 53) (zd (i := .ifCond .le (24)) (n := 3) (by decide +kernel)) (by decide) (fun h => (kt h) lv hl) (fun h => (kf h) lv hl))
theorem w_X9_doClash_32 {Q : qQ} {I : qMI} {L : qML} {R : qMR} (hR : wkR R) {a1 : Int32} {a2 : Int32} {a3 : Int32} (h1 : vp_in a1 97) (h2 : vp_in 96 97) {P : Int32 → qMI → qML → Prop} (hc : wkI l G d n_X9_sightOf [.ref 292, .int (I 324 a1.toNatClampNeg), .int a3, .int (I 324 (96 : Int32).toNatClampNeg)] I L R P) (kk : ∀ y I' L', P y I' L' → wkB l G (d + 1) n_X9_doClash Q 50 [.ref 292, .int a1, .int a2, .int a3, wkU, wkU] [.int y] I' L' R) : wkB l G (d + 1) n_X9_doClash Q 32 [.ref 292, .int a1, .int a2, .int a3, wkU, wkU] [] I L R :=
  bb_aload_n (n := 0) (i := 0) (zd (i := .aload_n 0) (n := 1) (by decide +kernel)) rfl rfl <|
  bb_aload_n (n := 0) (i := 0) (zd (i := .aload_n 0) (n := 1) (by decide +kernel)) rfl rfl <|
  bb_getr (k := 292) (ci := 9) (j := 49) (idx := 113) (a := 324) (zd (i := .getfield 113) (n := 3) (by decide +kernel)) (by decide +kernel) (by decide +kernel) (by decide +kernel) (by decide +kernel) rfl g1177 (hR 49 (by decide)) <|
  bb_iload_n (n := 1) (i := 1) (zd (i := .iload_n 1) (n := 1) (by decide +kernel)) rfl rfl <|
  bb_lift (fun _ => q_iald (k := 324) (zd (i := .iaload) (n := 1) (by decide +kernel)) (by decide +kernel) (by decide +kernel) h1) <|
  bb_iload_n (n := 3) (i := 3) (zd (i := .iload_n 3) (n := 1) (by decide +kernel)) rfl rfl <|
  bb_aload_n (n := 0) (i := 0) (zd (i := .aload_n 0) (n := 1) (by decide +kernel)) rfl rfl <|
  bb_getr (k := 292) (ci := 9) (j := 49) (idx := 113) (a := 324) (zd (i := .getfield 113) (n := 3) (by decide +kernel)) (by decide +kernel) (by decide +kernel) (by decide +kernel) (by decide +kernel) rfl g1177 (hR 49 (by decide)) <|
  bb_lift (fun _ => q_bipush (n := 96) (zd (i := .bipush (96)) (n := 2) (by decide +kernel)) rfl) <|
  bb_lift (fun _ => q_iald (k := 324) (zd (i := .iaload) (n := 1) (by decide +kernel)) (by decide +kernel) (by decide +kernel) h2) <|
  bb_callVI (idx := 399) (k := 292) (ci := 9) (N := n_X9_sightOf) (As := [.int (I 324 a1.toNatClampNeg), .int a3, .int (I 324 (96 : Int32).toNatClampNeg)]) (st := []) (zd (i := .invokevirtual 399) (n := 3) (by decide +kernel)) to_X9_sightOf g1578 g1580 g87 (Nat.le_of_ble_eq_true rfl) (by decide +kernel) (by decide +kernel) (by decide +kernel) rfl rfl rfl hc kk
theorem w_X9_doClash_50 {Q : qQ} {I : qMI} {L : qML} {R : qMR} {a1 : Int32} {a2 : Int32} {a3 : Int32} {s0 : Int32} (k : wkB l G (d + 1) n_X9_doClash Q 55 [.ref 292, .int a1, .int a2, .int a3, wkU, wkU] [.int s0] I L R) : wkB l G (d + 1) n_X9_doClash Q 50 [.ref 292, .int a1, .int a2, .int a3, wkU, wkU] [.int s0] I L R :=
  bb_lift (fun _ => q_goto (off := 5) (tgt := 55) (zd (i := .goto (5)) (n := 3) (by decide +kernel)) (by decide)) k
theorem w_X9_doClash_53 {Q : qQ} {I : qMI} {L : qML} {R : qMR} {a1 : Int32} {a2 : Int32} {a3 : Int32} (k : wkB l G (d + 1) n_X9_doClash Q 55 [.ref 292, .int a1, .int a2, .int a3, wkU, wkU] [.int (-2)] I L R) : wkB l G (d + 1) n_X9_doClash Q 53 [.ref 292, .int a1, .int a2, .int a3, wkU, wkU] [] I L R :=
  bb_lift (fun _ => q_bipush (n := -2) (zd (i := .bipush (-2)) (n := 2) (by decide +kernel)) rfl) <|
  k
theorem w_X9_doClash_55 {Q : qQ} {I : qMI} {L : qML} {R : qMR} {a1 : Int32} {a2 : Int32} {a3 : Int32} {s0 : Int32} (k : wkB l G (d + 1) n_X9_doClash Q 60 [.ref 292, .int a1, .int a2, .int a3, .int s0, .int 0] [] I L R) : wkB l G (d + 1) n_X9_doClash Q 55 [.ref 292, .int a1, .int a2, .int a3, wkU, wkU] [.int s0] I L R :=
  bb_istore (i := 4) (zd (i := .istore 4) (n := 2) (by decide +kernel)) (by decide +kernel) (wkNl_i rfl) <|
  bb_lift (fun _ => q_iconst (n := 0) (zd (i := .iconst (0)) (n := 1) (by decide +kernel)) rfl) <|
  bb_istore (i := 5) (zd (i := .istore 5) (n := 2) (by decide +kernel)) (by decide +kernel) (wkNl_i rfl) <|
  k
theorem w_X9_doClash_60 {Q : qQ} {I : qMI} {L : qML} {R : qMR} (hR : wkR R) {a1 : Int32} {a2 : Int32} {a3 : Int32} {a4 : Int32} {a5 : Int32} (h1 : vp_in (I 292 18) 2) (kt : (I 301 (I 292 18).toNatClampNeg) ≤ a5 → wkB l G (d + 1) n_X9_doClash Q 135 [.ref 292, .int a1, .int a2, .int a3, .int a4, .int a5] [] I L R) (kf : ¬ (I 301 (I 292 18).toNatClampNeg) ≤ a5 → wkB l G (d + 1) n_X9_doClash Q 74 [.ref 292, .int a1, .int a2, .int a3, .int a4, .int a5] [] I L R) : wkB l G (d + 1) n_X9_doClash Q 60 [.ref 292, .int a1, .int a2, .int a3, .int a4, .int a5] [] I L R :=
  bb_iload (i := 5) (zd (i := .iload 5) (n := 2) (by decide +kernel)) rfl <|
  bb_aload_n (n := 0) (i := 0) (zd (i := .aload_n 0) (n := 1) (by decide +kernel)) rfl rfl <|
  bb_getr (k := 292) (ci := 9) (j := 22) (idx := 43) (a := 301) (zd (i := .getfield 43) (n := 3) (by decide +kernel)) (by decide +kernel) (by decide +kernel) (by decide +kernel) (by decide +kernel) rfl g1150 (hR 22 (by decide)) <|
  bb_aload_n (n := 0) (i := 0) (zd (i := .aload_n 0) (n := 1) (by decide +kernel)) rfl rfl <|
  bb_geti (k := 292) (ci := 9) (j := 18) (idx := 230) (zd (i := .getfield 230) (n := 3) (by decide +kernel)) (by decide +kernel) (by decide +kernel) (by decide +kernel) (by decide +kernel) rfl g1146 <|
  bb_lift (fun _ => q_iald (k := 301) (zd (i := .iaload) (n := 1) (by decide +kernel)) (by decide +kernel) (by decide +kernel) h1) <|
  (fun lv hl => q_icmp_ge (off := 64) (tgt := 135) (zd (i := .if_icmp .ge (64)) (n := 3) (by decide +kernel)) (by decide) (fun h => (kt h) lv hl) (fun h => (kf h) lv hl))
theorem w_X9_doClash_74 {Q : qQ} {I : qMI} {L : qML} {R : qMR} {a1 : Int32} {a2 : Int32} {a3 : Int32} {a4 : Int32} {a5 : Int32} (kt : a4 < 0 → wkB l G (d + 1) n_X9_doClash Q 135 [.ref 292, .int a1, .int a2, .int a3, .int a4, .int a5] [] I L R) (kf : ¬ a4 < 0 → wkB l G (d + 1) n_X9_doClash Q 79 [.ref 292, .int a1, .int a2, .int a3, .int a4, .int a5] [] I L R) : wkB l G (d + 1) n_X9_doClash Q 74 [.ref 292, .int a1, .int a2, .int a3, .int a4, .int a5] [] I L R :=
  bb_iload (i := 4) (zd (i := .iload 4) (n := 2) (by decide +kernel)) rfl <|
  (fun lv hl => q_if_lt (off := 59) (tgt := 135) (zd (i := .ifCond .lt (59)) (n := 3) (by decide +kernel)) (by decide) (fun h => (kt h) lv hl) (fun h => (kf h) lv hl))
theorem w_X9_doClash_79 {Q : qQ} {I : qMI} {L : qML} {R : qMR} {a1 : Int32} {a2 : Int32} {a3 : Int32} {a4 : Int32} {a5 : Int32} (kt : a5 = a3 → wkB l G (d + 1) n_X9_doClash Q 129 [.ref 292, .int a1, .int a2, .int a3, .int a4, .int a5] [] I L R) (kf : ¬ a5 = a3 → wkB l G (d + 1) n_X9_doClash Q 85 [.ref 292, .int a1, .int a2, .int a3, .int a4, .int a5] [] I L R) : wkB l G (d + 1) n_X9_doClash Q 79 [.ref 292, .int a1, .int a2, .int a3, .int a4, .int a5] [] I L R :=
  bb_iload (i := 5) (zd (i := .iload 5) (n := 2) (by decide +kernel)) rfl <|
  bb_iload_n (n := 3) (i := 3) (zd (i := .iload_n 3) (n := 1) (by decide +kernel)) rfl rfl <|
  (fun lv hl => q_icmp_eq (off := 47) (tgt := 129) (zd (i := .if_icmp .eq (47)) (n := 3) (by decide +kernel)) (by decide) (fun h => (kt h) lv hl) (fun h => (kf h) lv hl))
theorem w_X9_doClash_85 {Q : qQ} {I : qMI} {L : qML} {R : qMR} (hR : wkR R) {a1 : Int32} {a2 : Int32} {a3 : Int32} {a4 : Int32} {a5 : Int32} (h1 : vp_in ((24 + (6 * a2)) + a5) 97) (kt : (I 324 ((24 + (6 * a2)) + a5).toNatClampNeg) ≤ 0 → wkB l G (d + 1) n_X9_doClash Q 129 [.ref 292, .int a1, .int a2, .int a3, .int a4, .int a5] [] I L R) (kf : ¬ (I 324 ((24 + (6 * a2)) + a5).toNatClampNeg) ≤ 0 → wkB l G (d + 1) n_X9_doClash Q 103 [.ref 292, .int a1, .int a2, .int a3, .int a4, .int a5] [] I L R) : wkB l G (d + 1) n_X9_doClash Q 85 [.ref 292, .int a1, .int a2, .int a3, .int a4, .int a5] [] I L R :=
  bb_aload_n (n := 0) (i := 0) (zd (i := .aload_n 0) (n := 1) (by decide +kernel)) rfl rfl <|
  bb_getr (k := 292) (ci := 9) (j := 49) (idx := 113) (a := 324) (zd (i := .getfield 113) (n := 3) (by decide +kernel)) (by decide +kernel) (by decide +kernel) (by decide +kernel) (by decide +kernel) rfl g1177 (hR 49 (by decide)) <|
  bb_lift (fun _ => q_bipush (n := 24) (zd (i := .bipush (24)) (n := 2) (by decide +kernel)) rfl) <|
  bb_lift (fun _ => q_bipush (n := 6) (zd (i := .bipush (6)) (n := 2) (by decide +kernel)) rfl) <|
  bb_iload_n (n := 2) (i := 2) (zd (i := .iload_n 2) (n := 1) (by decide +kernel)) rfl rfl <|
  bb_lift (fun _ => q_imul (zd (i := .imul) (n := 1) (by decide +kernel))) <|
  bb_lift (fun _ => q_iadd (zd (i := .iadd) (n := 1) (by decide +kernel))) <|
  bb_iload (i := 5) (zd (i := .iload 5) (n := 2) (by decide +kernel)) rfl <|
  bb_lift (fun _ => q_iadd (zd (i := .iadd) (n := 1) (by decide +kernel))) <|
  bb_lift (fun _ => q_iald (k := 324) (zd (i := .iaload) (n := 1) (by decide +kernel)) (by decide +kernel) (by decide +kernel) h1) <|
  (fun lv hl => q_if_le (off := 29) (tgt := 129) (zd (i := .ifCond .le (29)) (n := 3) (by decide +kernel)) (by decide) (fun h => (kt h) lv hl) (fun h => (kf h) lv hl))
theorem w_X9_doClash_103 {Q : qQ} {I : qMI} {L : qML} {R : qMR} (hR : wkR R) {a1 : Int32} {a2 : Int32} {a3 : Int32} {a4 : Int32} {a5 : Int32} (h1 : vp_in a2 97) (h2 : vp_in 96 97) {P : Int32 → qMI → qML → Prop} (hc : wkI l G d n_X9_sightOf [.ref 292, .int (I 324 a2.toNatClampNeg), .int a5, .int (I 324 (96 : Int32).toNatClampNeg)] I L R P) (kk : ∀ y I' L', P y I' L' → wkB l G (d + 1) n_X9_doClash Q 122 [.ref 292, .int a1, .int a2, .int a3, .int a4, .int a5] [.int y] I' L' R) : wkB l G (d + 1) n_X9_doClash Q 103 [.ref 292, .int a1, .int a2, .int a3, .int a4, .int a5] [] I L R :=
  bb_aload_n (n := 0) (i := 0) (zd (i := .aload_n 0) (n := 1) (by decide +kernel)) rfl rfl <|
  bb_aload_n (n := 0) (i := 0) (zd (i := .aload_n 0) (n := 1) (by decide +kernel)) rfl rfl <|
  bb_getr (k := 292) (ci := 9) (j := 49) (idx := 113) (a := 324) (zd (i := .getfield 113) (n := 3) (by decide +kernel)) (by decide +kernel) (by decide +kernel) (by decide +kernel) (by decide +kernel) rfl g1177 (hR 49 (by decide)) <|
  bb_iload_n (n := 2) (i := 2) (zd (i := .iload_n 2) (n := 1) (by decide +kernel)) rfl rfl <|
  bb_lift (fun _ => q_iald (k := 324) (zd (i := .iaload) (n := 1) (by decide +kernel)) (by decide +kernel) (by decide +kernel) h1) <|
  bb_iload (i := 5) (zd (i := .iload 5) (n := 2) (by decide +kernel)) rfl <|
  bb_aload_n (n := 0) (i := 0) (zd (i := .aload_n 0) (n := 1) (by decide +kernel)) rfl rfl <|
  bb_getr (k := 292) (ci := 9) (j := 49) (idx := 113) (a := 324) (zd (i := .getfield 113) (n := 3) (by decide +kernel)) (by decide +kernel) (by decide +kernel) (by decide +kernel) (by decide +kernel) rfl g1177 (hR 49 (by decide)) <|
  bb_lift (fun _ => q_bipush (n := 96) (zd (i := .bipush (96)) (n := 2) (by decide +kernel)) rfl) <|
  bb_lift (fun _ => q_iald (k := 324) (zd (i := .iaload) (n := 1) (by decide +kernel)) (by decide +kernel) (by decide +kernel) h2) <|
  bb_callVI (idx := 399) (k := 292) (ci := 9) (N := n_X9_sightOf) (As := [.int (I 324 a2.toNatClampNeg), .int a5, .int (I 324 (96 : Int32).toNatClampNeg)]) (st := []) (zd (i := .invokevirtual 399) (n := 3) (by decide +kernel)) to_X9_sightOf g1578 g1580 g87 (Nat.le_of_ble_eq_true rfl) (by decide +kernel) (by decide +kernel) (by decide +kernel) rfl rfl rfl hc kk
theorem w_X9_doClash_122 {Q : qQ} {I : qMI} {L : qML} {R : qMR} {a1 : Int32} {a2 : Int32} {a3 : Int32} {a4 : Int32} {a5 : Int32} {s0 : Int32} (kt : ¬ s0 = a4 → wkB l G (d + 1) n_X9_doClash Q 129 [.ref 292, .int a1, .int a2, .int a3, .int a4, .int a5] [] I L R) (kf : s0 = a4 → wkB l G (d + 1) n_X9_doClash Q 127 [.ref 292, .int a1, .int a2, .int a3, .int a4, .int a5] [] I L R) : wkB l G (d + 1) n_X9_doClash Q 122 [.ref 292, .int a1, .int a2, .int a3, .int a4, .int a5] [.int s0] I L R :=
  bb_iload (i := 4) (zd (i := .iload 4) (n := 2) (by decide +kernel)) rfl <|
  (fun lv hl => q_icmp_ne (off := 5) (tgt := 129) (zd (i := .if_icmp .ne (5)) (n := 3) (by decide +kernel)) (by decide) (fun h => (kt h) lv hl) (fun h => (kf h) lv hl))
theorem w_X9_doClash_127 {Q : qQ} {I : qMI} {L : qML} {R : qMR} {a1 : Int32} {a2 : Int32} {a3 : Int32} {a4 : Int32} {a5 : Int32} (hQ : Q (some (.int 1)) 336 I L R) : wkB l G (d + 1) n_X9_doClash Q 127 [.ref 292, .int a1, .int a2, .int a3, .int a4, .int a5] [] I L R :=
  bb_lift (fun _ => q_iconst (n := 1) (zd (i := .iconst (1)) (n := 1) (by decide +kernel)) rfl) <|
  (fun lv hl => q_iret (zd (i := .ireturn) (n := 1) (by decide +kernel)) rfl rfl (Nat.le_refl _) (Nat.le_refl _) hQ)
theorem w_X9_doClash_129 {Q : qQ} {I : qMI} {L : qML} {R : qMR} {a1 : Int32} {a2 : Int32} {a3 : Int32} {a4 : Int32} {a5 : Int32} (k : wkB l G (d + 1) n_X9_doClash Q 60 [.ref 292, .int a1, .int a2, .int a3, .int a4, .int (a5 + 1)] [] I L R) : wkB l G (d + 1) n_X9_doClash Q 129 [.ref 292, .int a1, .int a2, .int a3, .int a4, .int a5] [] I L R :=
  bb_iinc (i := 5) (n := 1) (zd (i := .iinc 5 (1)) (n := 3) (by decide +kernel)) rfl rfl (by decide +kernel) (wkNl_i rfl) <|
  bb_lift (fun _ => q_goto (off := -72) (tgt := 60) (zd (i := .goto (-72)) (n := 3) (by decide +kernel)) (by decide)) k
theorem w_X9_doClash_135 {Q : qQ} {I : qMI} {L : qML} {R : qMR} {a1 : Int32} {a2 : Int32} {a3 : Int32} {a4 : Int32} {a5 : Int32} (k : wkB l G (d + 1) n_X9_doClash Q 2 [.ref 292, .int a1, .int a2, .int (a3 + 1), wkU, wkU] [] I L R) : wkB l G (d + 1) n_X9_doClash Q 135 [.ref 292, .int a1, .int a2, .int a3, .int a4, .int a5] [] I L R :=
  bb_iinc (i := 3) (n := 1) (zd (i := .iinc 3 (1)) (n := 3) (by decide +kernel)) rfl rfl (by decide +kernel) (wkNl_i rfl) <|
  bb_lift (fun _ => q_goto (off := -136) (tgt := 2) (zd (i := .goto (-136)) (n := 3) (by decide +kernel)) (by decide)) (wkB_le (vs := [.ref 292, .int a1, .int a2, .int (a3 + 1), wkU, wkU]) (ws := [.ref 292, .int a1, .int a2, .int (a3 + 1), .int a4, .int a5]) ⟨Or.inr rfl, Or.inr rfl, Or.inr rfl, Or.inr rfl, Or.inl rfl, Or.inl rfl, trivial⟩ (k))
theorem w_X9_doClash_141 {Q : qQ} {I : qMI} {L : qML} {R : qMR} {a1 : Int32} {a2 : Int32} {a3 : Int32} (hQ : Q (some (.int 0)) 336 I L R) : wkB l G (d + 1) n_X9_doClash Q 141 [.ref 292, .int a1, .int a2, .int a3, wkU, wkU] [] I L R :=
  bb_lift (fun _ => q_iconst (n := 0) (zd (i := .iconst (0)) (n := 1) (by decide +kernel)) rfl) <|
  (fun lv hl => q_iret (zd (i := .ireturn) (n := 1) (by decide +kernel)) rfl rfl (Nat.le_refl _) (Nat.le_refl _) hQ)
theorem w_X9_hidden_0 {Q : qQ} {I : qMI} {L : qML} {R : qMR} {a1 : Int32} {a2 : Int32} {a3 : Int32} {P : Int32 → qMI → qML → Prop} (hc : wkI l G d n_X9_isX [.int a1] I L R P) (kk : ∀ y I' L', P y I' L' → wkB l G (d + 1) n_X9_hidden Q 4 [.ref 292, .int a1, .int a2, .int a3, wkU, wkU] [.int y] I' L' R) : wkB l G (d + 1) n_X9_hidden Q 0 [.ref 292, .int a1, .int a2, .int a3, wkU, wkU] [] I L R :=
  bb_iload_n (n := 1) (i := 1) (zd (i := .iload_n 1) (n := 1) (by decide +kernel)) rfl rfl <|
  bb_callSI (idx := 387) (N := n_X9_isX) (As := [.int a1]) (st := []) (zd (i := .invokestatic 387) (n := 3) (by decide +kernel)) to_X9_isX g1507 g1508 (Nat.le_of_ble_eq_true rfl) rfl rfl hc kk
theorem w_X9_hidden_4 {Q : qQ} {I : qMI} {L : qML} {R : qMR} {a1 : Int32} {a2 : Int32} {a3 : Int32} {s0 : Int32} (kt : s0 = 0 → wkB l G (d + 1) n_X9_hidden Q 24 [.ref 292, .int a1, .int a2, .int a3, wkU, wkU] [] I L R) (kf : ¬ s0 = 0 → wkB l G (d + 1) n_X9_hidden Q 7 [.ref 292, .int a1, .int a2, .int a3, wkU, wkU] [] I L R) : wkB l G (d + 1) n_X9_hidden Q 4 [.ref 292, .int a1, .int a2, .int a3, wkU, wkU] [.int s0] I L R :=
  (fun lv hl => q_if_eq (off := 20) (tgt := 24) (zd (i := .ifCond .eq (20)) (n := 3) (by decide +kernel)) (by decide) (fun h => (kt h) lv hl) (fun h => (kf h) lv hl))
theorem w_X9_hidden_7 {Q : qQ} {I : qMI} {L : qML} {R : qMR} {a1 : Int32} {a2 : Int32} {a3 : Int32} {P : Int32 → qMI → qML → Prop} (hc : wkI l G d n_X9_isX [.int a2] I L R P) (kk : ∀ y I' L', P y I' L' → wkB l G (d + 1) n_X9_hidden Q 11 [.ref 292, .int a1, .int a2, .int a3, wkU, wkU] [.int y] I' L' R) : wkB l G (d + 1) n_X9_hidden Q 7 [.ref 292, .int a1, .int a2, .int a3, wkU, wkU] [] I L R :=
  bb_iload_n (n := 2) (i := 2) (zd (i := .iload_n 2) (n := 1) (by decide +kernel)) rfl rfl <|
  bb_callSI (idx := 387) (N := n_X9_isX) (As := [.int a2]) (st := []) (zd (i := .invokestatic 387) (n := 3) (by decide +kernel)) to_X9_isX g1507 g1508 (Nat.le_of_ble_eq_true rfl) rfl rfl hc kk
theorem w_X9_hidden_11 {Q : qQ} {I : qMI} {L : qML} {R : qMR} {a1 : Int32} {a2 : Int32} {a3 : Int32} {s0 : Int32} (kt : s0 = 0 → wkB l G (d + 1) n_X9_hidden Q 24 [.ref 292, .int a1, .int a2, .int a3, wkU, wkU] [] I L R) (kf : ¬ s0 = 0 → wkB l G (d + 1) n_X9_hidden Q 14 [.ref 292, .int a1, .int a2, .int a3, wkU, wkU] [] I L R) : wkB l G (d + 1) n_X9_hidden Q 11 [.ref 292, .int a1, .int a2, .int a3, wkU, wkU] [.int s0] I L R :=
  (fun lv hl => q_if_eq (off := 13) (tgt := 24) (zd (i := .ifCond .eq (13)) (n := 3) (by decide +kernel)) (by decide) (fun h => (kt h) lv hl) (fun h => (kf h) lv hl))
theorem w_X9_hidden_14 {Q : qQ} {I : qMI} {L : qML} {R : qMR} {a1 : Int32} {a2 : Int32} {a3 : Int32} {P : Int32 → qMI → qML → Prop} (hc : wkI l G d n_X9_in [.int a3, .int 1, .int 9] I L R P) (kk : ∀ y I' L', P y I' L' → wkB l G (d + 1) n_X9_hidden Q 21 [.ref 292, .int a1, .int a2, .int a3, wkU, wkU] [.int y] I' L' R) : wkB l G (d + 1) n_X9_hidden Q 14 [.ref 292, .int a1, .int a2, .int a3, wkU, wkU] [] I L R :=
  bb_iload_n (n := 3) (i := 3) (zd (i := .iload_n 3) (n := 1) (by decide +kernel)) rfl rfl <|
  bb_lift (fun _ => q_iconst (n := 1) (zd (i := .iconst (1)) (n := 1) (by decide +kernel)) rfl) <|
  bb_lift (fun _ => q_bipush (n := 9) (zd (i := .bipush (9)) (n := 2) (by decide +kernel)) rfl) <|
  bb_callSI (idx := 304) (N := n_X9_in) (As := [.int a3, .int 1, .int 9]) (st := []) (zd (i := .invokestatic 304) (n := 3) (by decide +kernel)) to_X9_in g1442 g1443 (Nat.le_of_ble_eq_true rfl) rfl rfl hc kk
theorem w_X9_hidden_21 {Q : qQ} {I : qMI} {L : qML} {R : qMR} {a1 : Int32} {a2 : Int32} {a3 : Int32} {s0 : Int32} (kt : ¬ s0 = 0 → wkB l G (d + 1) n_X9_hidden Q 26 [.ref 292, .int a1, .int a2, .int a3, wkU, wkU] [] I L R) (kf : s0 = 0 → wkB l G (d + 1) n_X9_hidden Q 24 [.ref 292, .int a1, .int a2, .int a3, wkU, wkU] [] I L R) : wkB l G (d + 1) n_X9_hidden Q 21 [.ref 292, .int a1, .int a2, .int a3, wkU, wkU] [.int s0] I L R :=
  (fun lv hl => q_if_ne (off := 5) (tgt := 26) (zd (i := .ifCond .ne (5)) (n := 3) (by decide +kernel)) (by decide) (fun h => (kt h) lv hl) (fun h => (kf h) lv hl))
theorem w_X9_hidden_24 {Q : qQ} {I : qMI} {L : qML} {R : qMR} {a1 : Int32} {a2 : Int32} {a3 : Int32} (hQ : Q (some (.int (-1))) 336 I L R) : wkB l G (d + 1) n_X9_hidden Q 24 [.ref 292, .int a1, .int a2, .int a3, wkU, wkU] [] I L R :=
  bb_lift (fun _ => q_iconst (n := -1) (zd (i := .iconst (-1)) (n := 1) (by decide +kernel)) rfl) <|
  (fun lv hl => q_iret (zd (i := .ireturn) (n := 1) (by decide +kernel)) rfl rfl (Nat.le_refl _) (Nat.le_refl _) hQ)
theorem w_X9_hidden_26 {Q : qQ} {I : qMI} {L : qML} {R : qMR} {a1 : Int32} {a2 : Int32} {a3 : Int32} (k : wkB l G (d + 1) n_X9_hidden Q 29 [.ref 292, .int a1, .int a2, .int a3, .int 0, wkU] [] I L R) : wkB l G (d + 1) n_X9_hidden Q 26 [.ref 292, .int a1, .int a2, .int a3, wkU, wkU] [] I L R :=
  bb_lift (fun _ => q_iconst (n := 0) (zd (i := .iconst (0)) (n := 1) (by decide +kernel)) rfl) <|
  bb_istore (i := 4) (zd (i := .istore 4) (n := 2) (by decide +kernel)) (by decide +kernel) (wkNl_i rfl) <|
  k
theorem w_X9_hidden_29 {Q : qQ} {I : qMI} {L : qML} {R : qMR} {a1 : Int32} {a2 : Int32} {a3 : Int32} {a4 : Int32} (kt : 22 ≤ a4 → wkB l G (d + 1) n_X9_hidden Q 78 [.ref 292, .int a1, .int a2, .int a3, .int a4, wkU] [] I L R) (kf : ¬ 22 ≤ a4 → wkB l G (d + 1) n_X9_hidden Q 36 [.ref 292, .int a1, .int a2, .int a3, .int a4, wkU] [] I L R) : wkB l G (d + 1) n_X9_hidden Q 29 [.ref 292, .int a1, .int a2, .int a3, .int a4, wkU] [] I L R :=
  bb_iload (i := 4) (zd (i := .iload 4) (n := 2) (by decide +kernel)) rfl <|
  bb_lift (fun _ => q_bipush (n := 22) (zd (i := .bipush (22)) (n := 2) (by decide +kernel)) rfl) <|
  (fun lv hl => q_icmp_ge (off := 45) (tgt := 78) (zd (i := .if_icmp .ge (45)) (n := 3) (by decide +kernel)) (by decide) (fun h => (kt h) lv hl) (fun h => (kf h) lv hl))
theorem w_X9_hidden_36 {Q : qQ} {I : qMI} {L : qML} {R : qMR} (hR : wkR R) {a1 : Int32} {a2 : Int32} {a3 : Int32} {a4 : Int32} (kt : ¬ a4 = (a1 + 1) → wkB l G (d + 1) n_X9_hidden Q 70 [.ref 292, .int a1, .int a2, .int a3, .int a4, wkU] [.int a4, .ref 328] I L R) (kf : a4 = (a1 + 1) → wkB l G (d + 1) n_X9_hidden Q 50 [.ref 292, .int a1, .int a2, .int a3, .int a4, wkU] [.int a4, .ref 328] I L R) : wkB l G (d + 1) n_X9_hidden Q 36 [.ref 292, .int a1, .int a2, .int a3, .int a4, wkU] [] I L R :=
  bb_aload_n (n := 0) (i := 0) (zd (i := .aload_n 0) (n := 1) (by decide +kernel)) rfl rfl <|
  bb_getr (k := 292) (ci := 9) (j := 56) (idx := 125) (a := 328) (zd (i := .getfield 125) (n := 3) (by decide +kernel)) (by decide +kernel) (by decide +kernel) (by decide +kernel) (by decide +kernel) rfl g1184 (hR 56 (by decide)) <|
  bb_iload (i := 4) (zd (i := .iload 4) (n := 2) (by decide +kernel)) rfl <|
  bb_iload (i := 4) (zd (i := .iload 4) (n := 2) (by decide +kernel)) rfl <|
  bb_iload_n (n := 1) (i := 1) (zd (i := .iload_n 1) (n := 1) (by decide +kernel)) rfl rfl <|
  bb_lift (fun _ => q_iconst (n := 1) (zd (i := .iconst (1)) (n := 1) (by decide +kernel)) rfl) <|
  bb_lift (fun _ => q_iadd (zd (i := .iadd) (n := 1) (by decide +kernel))) <|
  (fun lv hl => q_icmp_ne (off := 23) (tgt := 70) (zd (i := .if_icmp .ne (23)) (n := 3) (by decide +kernel)) (by decide) (fun h => (kt h) lv hl) (fun h => (kf h) lv hl))
theorem w_X9_hidden_50 {Q : qQ} {I : qMI} {L : qML} {R : qMR} (hR : wkR R) {a1 : Int32} {a2 : Int32} {a3 : Int32} {a4 : Int32} {s1 : Int32} (h1 : vp_in 96 97) {P : Int32 → qMI → qML → Prop} (hc : wkI l G d n_X9_isWatched [.ref 292, .int a1, .int a3, .int (I 323 (96 : Int32).toNatClampNeg)] I L R P) (kk : ∀ y I' L', P y I' L' → wkB l G (d + 1) n_X9_hidden Q 63 [.ref 292, .int a1, .int a2, .int a3, .int a4, wkU] [.int y, .int s1, .ref 328] I' L' R) : wkB l G (d + 1) n_X9_hidden Q 50 [.ref 292, .int a1, .int a2, .int a3, .int a4, wkU] [.int s1, .ref 328] I L R :=
  bb_aload_n (n := 0) (i := 0) (zd (i := .aload_n 0) (n := 1) (by decide +kernel)) rfl rfl <|
  bb_iload_n (n := 1) (i := 1) (zd (i := .iload_n 1) (n := 1) (by decide +kernel)) rfl rfl <|
  bb_iload_n (n := 3) (i := 3) (zd (i := .iload_n 3) (n := 1) (by decide +kernel)) rfl rfl <|
  bb_aload_n (n := 0) (i := 0) (zd (i := .aload_n 0) (n := 1) (by decide +kernel)) rfl rfl <|
  bb_getr (k := 292) (ci := 9) (j := 48) (idx := 110) (a := 323) (zd (i := .getfield 110) (n := 3) (by decide +kernel)) (by decide +kernel) (by decide +kernel) (by decide +kernel) (by decide +kernel) rfl g1176 (hR 48 (by decide)) <|
  bb_lift (fun _ => q_bipush (n := 96) (zd (i := .bipush (96)) (n := 2) (by decide +kernel)) rfl) <|
  bb_lift (fun _ => q_iald (k := 323) (zd (i := .iaload) (n := 1) (by decide +kernel)) (by decide +kernel) (by decide +kernel) h1) <|
  bb_callVI (idx := 425) (k := 292) (ci := 9) (N := n_X9_isWatched) (As := [.int a1, .int a3, .int (I 323 (96 : Int32).toNatClampNeg)]) (st := [.int s1, .ref 328]) (zd (i := .invokevirtual 425) (n := 3) (by decide +kernel)) to_X9_isWatched g1653 g1655 g93 (Nat.le_of_ble_eq_true rfl) (by decide +kernel) (by decide +kernel) (by decide +kernel) rfl rfl rfl hc kk
theorem w_X9_hidden_63 {Q : qQ} {I : qMI} {L : qML} {R : qMR} {a1 : Int32} {a2 : Int32} {a3 : Int32} {a4 : Int32} {s1 : Int32} {s2 : Int32} (kt : ¬ s2 = 0 → wkB l G (d + 1) n_X9_hidden Q 70 [.ref 292, .int a1, .int a2, .int a3, .int a4, wkU] [.int s1, .ref 328] I L R) (kf : s2 = 0 → wkB l G (d + 1) n_X9_hidden Q 66 [.ref 292, .int a1, .int a2, .int a3, .int a4, wkU] [.int s1, .ref 328] I L R) : wkB l G (d + 1) n_X9_hidden Q 63 [.ref 292, .int a1, .int a2, .int a3, .int a4, wkU] [.int s2, .int s1, .ref 328] I L R :=
  (fun lv hl => q_if_ne (off := 7) (tgt := 70) (zd (i := .ifCond .ne (7)) (n := 3) (by decide +kernel)) (by decide) (fun h => (kt h) lv hl) (fun h => (kf h) lv hl))
theorem w_X9_hidden_66 {Q : qQ} {I : qMI} {L : qML} {R : qMR} {a1 : Int32} {a2 : Int32} {a3 : Int32} {a4 : Int32} {s1 : Int32} (k : wkB l G (d + 1) n_X9_hidden Q 71 [.ref 292, .int a1, .int a2, .int a3, .int a4, wkU] [.int 1, .int s1, .ref 328] I L R) : wkB l G (d + 1) n_X9_hidden Q 66 [.ref 292, .int a1, .int a2, .int a3, .int a4, wkU] [.int s1, .ref 328] I L R :=
  bb_lift (fun _ => q_iconst (n := 1) (zd (i := .iconst (1)) (n := 1) (by decide +kernel)) rfl) <|
  bb_lift (fun _ => q_goto (off := 4) (tgt := 71) (zd (i := .goto (4)) (n := 3) (by decide +kernel)) (by decide)) k
theorem w_X9_hidden_70 {Q : qQ} {I : qMI} {L : qML} {R : qMR} {a1 : Int32} {a2 : Int32} {a3 : Int32} {a4 : Int32} {s1 : Int32} (k : wkB l G (d + 1) n_X9_hidden Q 71 [.ref 292, .int a1, .int a2, .int a3, .int a4, wkU] [.int 0, .int s1, .ref 328] I L R) : wkB l G (d + 1) n_X9_hidden Q 70 [.ref 292, .int a1, .int a2, .int a3, .int a4, wkU] [.int s1, .ref 328] I L R :=
  bb_lift (fun _ => q_iconst (n := 0) (zd (i := .iconst (0)) (n := 1) (by decide +kernel)) rfl) <|
  k
theorem w_X9_hidden_71 {Q : qQ} {I : qMI} {L : qML} {R : qMR} {a1 : Int32} {a2 : Int32} {a3 : Int32} {a4 : Int32} {s1 : Int32} {s2 : Int32} (h1 : vp_in s1 22) (k : wkB l G (d + 1) n_X9_hidden Q 29 [.ref 292, .int a1, .int a2, .int a3, .int (a4 + 1), wkU] [] (qUp I 328 s1.toNatClampNeg (vp_nar .boolean s2)) L R) : wkB l G (d + 1) n_X9_hidden Q 71 [.ref 292, .int a1, .int a2, .int a3, .int a4, wkU] [.int s2, .int s1, .ref 328] I L R :=
  bb_lift (fun _ => q_zast (k := 328) (zd (i := .bastore) (n := 1) (by decide +kernel)) (by decide +kernel) (by decide +kernel) h1) <|
  bb_iinc (i := 4) (n := 1) (zd (i := .iinc 4 (1)) (n := 3) (by decide +kernel)) rfl rfl (by decide +kernel) (wkNl_i rfl) <|
  bb_lift (fun _ => q_goto (off := -46) (tgt := 29) (zd (i := .goto (-46)) (n := 3) (by decide +kernel)) (by decide)) k
theorem w_X9_hidden_78 {Q : qQ} {I : qMI} {L : qML} {R : qMR} {a1 : Int32} {a2 : Int32} {a3 : Int32} {a4 : Int32} (k : wkB l G (d + 1) n_X9_hidden Q 81 [.ref 292, .int a1, .int a2, .int a3, .int 0, wkU] [] I L R) : wkB l G (d + 1) n_X9_hidden Q 78 [.ref 292, .int a1, .int a2, .int a3, .int a4, wkU] [] I L R :=
  bb_lift (fun _ => q_iconst (n := 0) (zd (i := .iconst (0)) (n := 1) (by decide +kernel)) rfl) <|
  bb_istore (i := 4) (zd (i := .istore 4) (n := 2) (by decide +kernel)) (by decide +kernel) (wkNl_i rfl) <|
  k
theorem w_X9_hidden_81 {Q : qQ} {I : qMI} {L : qML} {R : qMR} {a1 : Int32} {a2 : Int32} {a3 : Int32} {a4 : Int32} (kt : 48 < a4 → wkB l G (d + 1) n_X9_hidden Q 224 [.ref 292, .int a1, .int a2, .int a3, .int a4, wkU] [] I L R) (kf : ¬ 48 < a4 → wkB l G (d + 1) n_X9_hidden Q 88 [.ref 292, .int a1, .int a2, .int a3, .int a4, wkU] [] I L R) : wkB l G (d + 1) n_X9_hidden Q 81 [.ref 292, .int a1, .int a2, .int a3, .int a4, wkU] [] I L R :=
  bb_iload (i := 4) (zd (i := .iload 4) (n := 2) (by decide +kernel)) rfl <|
  bb_lift (fun _ => q_bipush (n := 48) (zd (i := .bipush (48)) (n := 2) (by decide +kernel)) rfl) <|
  (fun lv hl => q_icmp_gt (off := 139) (tgt := 224) (zd (i := .if_icmp .gt (139)) (n := 3) (by decide +kernel)) (by decide) (fun h => (kt h) lv hl) (fun h => (kf h) lv hl))
theorem w_X9_hidden_88 {Q : qQ} {I : qMI} {L : qML} {R : qMR} (hR : wkR R) {a1 : Int32} {a2 : Int32} {a3 : Int32} {a4 : Int32} (h1 : vp_in (a2 + 1) 22) (kt : (I 328 (a2 + 1).toNatClampNeg) = 0 → wkB l G (d + 1) n_X9_hidden Q 102 [.ref 292, .int a1, .int a2, .int a3, .int a4, wkU] [] I L R) (kf : ¬ (I 328 (a2 + 1).toNatClampNeg) = 0 → wkB l G (d + 1) n_X9_hidden Q 99 [.ref 292, .int a1, .int a2, .int a3, .int a4, wkU] [] I L R) : wkB l G (d + 1) n_X9_hidden Q 88 [.ref 292, .int a1, .int a2, .int a3, .int a4, wkU] [] I L R :=
  bb_aload_n (n := 0) (i := 0) (zd (i := .aload_n 0) (n := 1) (by decide +kernel)) rfl rfl <|
  bb_getr (k := 292) (ci := 9) (j := 56) (idx := 125) (a := 328) (zd (i := .getfield 125) (n := 3) (by decide +kernel)) (by decide +kernel) (by decide +kernel) (by decide +kernel) (by decide +kernel) rfl g1184 (hR 56 (by decide)) <|
  bb_iload_n (n := 2) (i := 2) (zd (i := .iload_n 2) (n := 1) (by decide +kernel)) rfl rfl <|
  bb_lift (fun _ => q_iconst (n := 1) (zd (i := .iconst (1)) (n := 1) (by decide +kernel)) rfl) <|
  bb_lift (fun _ => q_iadd (zd (i := .iadd) (n := 1) (by decide +kernel))) <|
  bb_lift (fun _ => q_zald (k := 328) (zd (i := .baload) (n := 1) (by decide +kernel)) (by decide +kernel) (by decide +kernel) h1) <|
  (fun lv hl => q_if_eq (off := 6) (tgt := 102) (zd (i := .ifCond .eq (6)) (n := 3) (by decide +kernel)) (by decide) (fun h => (kt h) lv hl) (fun h => (kf h) lv hl))
theorem w_X9_hidden_99 {Q : qQ} {I : qMI} {L : qML} {R : qMR} {a1 : Int32} {a2 : Int32} {a3 : Int32} {a4 : Int32} (hQ : Q (some (.int a4)) 336 I L R) : wkB l G (d + 1) n_X9_hidden Q 99 [.ref 292, .int a1, .int a2, .int a3, .int a4, wkU] [] I L R :=
  bb_iload (i := 4) (zd (i := .iload 4) (n := 2) (by decide +kernel)) rfl <|
  (fun lv hl => q_iret (zd (i := .ireturn) (n := 1) (by decide +kernel)) rfl rfl (Nat.le_refl _) (Nat.le_refl _) hQ)
theorem w_X9_hidden_102 {Q : qQ} {I : qMI} {L : qML} {R : qMR} {a1 : Int32} {a2 : Int32} {a3 : Int32} {a4 : Int32} (k : wkB l G (d + 1) n_X9_hidden Q 105 [.ref 292, .int a1, .int a2, .int a3, .int a4, .int 1] [] I L R) : wkB l G (d + 1) n_X9_hidden Q 102 [.ref 292, .int a1, .int a2, .int a3, .int a4, wkU] [] I L R :=
  bb_lift (fun _ => q_iconst (n := 1) (zd (i := .iconst (1)) (n := 1) (by decide +kernel)) rfl) <|
  bb_istore (i := 5) (zd (i := .istore 5) (n := 2) (by decide +kernel)) (by decide +kernel) (wkNl_i rfl) <|
  k
theorem w_X9_hidden_105 {Q : qQ} {I : qMI} {L : qML} {R : qMR} {a1 : Int32} {a2 : Int32} {a3 : Int32} {a4 : Int32} {a5 : Int32} (kt : 20 < a5 → wkB l G (d + 1) n_X9_hidden Q 188 [.ref 292, .int a1, .int a2, .int a3, .int a4, .int a5] [] I L R) (kf : ¬ 20 < a5 → wkB l G (d + 1) n_X9_hidden Q 112 [.ref 292, .int a1, .int a2, .int a3, .int a4, .int a5] [] I L R) : wkB l G (d + 1) n_X9_hidden Q 105 [.ref 292, .int a1, .int a2, .int a3, .int a4, .int a5] [] I L R :=
  bb_iload (i := 5) (zd (i := .iload 5) (n := 2) (by decide +kernel)) rfl <|
  bb_lift (fun _ => q_bipush (n := 20) (zd (i := .bipush (20)) (n := 2) (by decide +kernel)) rfl) <|
  (fun lv hl => q_icmp_gt (off := 79) (tgt := 188) (zd (i := .if_icmp .gt (79)) (n := 3) (by decide +kernel)) (by decide) (fun h => (kt h) lv hl) (fun h => (kf h) lv hl))
theorem w_X9_hidden_112 {Q : qQ} {I : qMI} {L : qML} {R : qMR} (hR : wkR R) {a1 : Int32} {a2 : Int32} {a3 : Int32} {a4 : Int32} {a5 : Int32} (h1 : vp_in (a5 - 1) 22) (kt : ¬ (I 328 (a5 - 1).toNatClampNeg) = 0 → wkB l G (d + 1) n_X9_hidden Q 152 [.ref 292, .int a1, .int a2, .int a3, .int a4, .int a5] [.int a5, .ref 329] I L R) (kf : (I 328 (a5 - 1).toNatClampNeg) = 0 → wkB l G (d + 1) n_X9_hidden Q 130 [.ref 292, .int a1, .int a2, .int a3, .int a4, .int a5] [.int a5, .ref 329] I L R) : wkB l G (d + 1) n_X9_hidden Q 112 [.ref 292, .int a1, .int a2, .int a3, .int a4, .int a5] [] I L R :=
  bb_aload_n (n := 0) (i := 0) (zd (i := .aload_n 0) (n := 1) (by decide +kernel)) rfl rfl <|
  bb_getr (k := 292) (ci := 9) (j := 57) (idx := 128) (a := 329) (zd (i := .getfield 128) (n := 3) (by decide +kernel)) (by decide +kernel) (by decide +kernel) (by decide +kernel) (by decide +kernel) rfl g1185 (hR 57 (by decide)) <|
  bb_iload (i := 5) (zd (i := .iload 5) (n := 2) (by decide +kernel)) rfl <|
  bb_aload_n (n := 0) (i := 0) (zd (i := .aload_n 0) (n := 1) (by decide +kernel)) rfl rfl <|
  bb_getr (k := 292) (ci := 9) (j := 56) (idx := 125) (a := 328) (zd (i := .getfield 125) (n := 3) (by decide +kernel)) (by decide +kernel) (by decide +kernel) (by decide +kernel) (by decide +kernel) rfl g1184 (hR 56 (by decide)) <|
  bb_iload (i := 5) (zd (i := .iload 5) (n := 2) (by decide +kernel)) rfl <|
  bb_lift (fun _ => q_iconst (n := 1) (zd (i := .iconst (1)) (n := 1) (by decide +kernel)) rfl) <|
  bb_lift (fun _ => q_isub (zd (i := .isub) (n := 1) (by decide +kernel))) <|
  bb_lift (fun _ => q_zald (k := 328) (zd (i := .baload) (n := 1) (by decide +kernel)) (by decide +kernel) (by decide +kernel) h1) <|
  (fun lv hl => q_if_ne (off := 25) (tgt := 152) (zd (i := .ifCond .ne (25)) (n := 3) (by decide +kernel)) (by decide) (fun h => (kt h) lv hl) (fun h => (kf h) lv hl))
theorem w_X9_hidden_130 {Q : qQ} {I : qMI} {L : qML} {R : qMR} (hR : wkR R) {a1 : Int32} {a2 : Int32} {a3 : Int32} {a4 : Int32} {a5 : Int32} {s1 : Int32} (h1 : vp_in a5 22) (kt : ¬ (I 328 a5.toNatClampNeg) = 0 → wkB l G (d + 1) n_X9_hidden Q 152 [.ref 292, .int a1, .int a2, .int a3, .int a4, .int a5] [.int s1, .ref 329] I L R) (kf : (I 328 a5.toNatClampNeg) = 0 → wkB l G (d + 1) n_X9_hidden Q 140 [.ref 292, .int a1, .int a2, .int a3, .int a4, .int a5] [.int s1, .ref 329] I L R) : wkB l G (d + 1) n_X9_hidden Q 130 [.ref 292, .int a1, .int a2, .int a3, .int a4, .int a5] [.int s1, .ref 329] I L R :=
  bb_aload_n (n := 0) (i := 0) (zd (i := .aload_n 0) (n := 1) (by decide +kernel)) rfl rfl <|
  bb_getr (k := 292) (ci := 9) (j := 56) (idx := 125) (a := 328) (zd (i := .getfield 125) (n := 3) (by decide +kernel)) (by decide +kernel) (by decide +kernel) (by decide +kernel) (by decide +kernel) rfl g1184 (hR 56 (by decide)) <|
  bb_iload (i := 5) (zd (i := .iload 5) (n := 2) (by decide +kernel)) rfl <|
  bb_lift (fun _ => q_zald (k := 328) (zd (i := .baload) (n := 1) (by decide +kernel)) (by decide +kernel) (by decide +kernel) h1) <|
  (fun lv hl => q_if_ne (off := 15) (tgt := 152) (zd (i := .ifCond .ne (15)) (n := 3) (by decide +kernel)) (by decide) (fun h => (kt h) lv hl) (fun h => (kf h) lv hl))
theorem w_X9_hidden_140 {Q : qQ} {I : qMI} {L : qML} {R : qMR} (hR : wkR R) {a1 : Int32} {a2 : Int32} {a3 : Int32} {a4 : Int32} {a5 : Int32} {s1 : Int32} (h1 : vp_in (a5 + 1) 22) (kt : (I 328 (a5 + 1).toNatClampNeg) = 0 → wkB l G (d + 1) n_X9_hidden Q 180 [.ref 292, .int a1, .int a2, .int a3, .int a4, .int a5] [.int s1, .ref 329] I L R) (kf : ¬ (I 328 (a5 + 1).toNatClampNeg) = 0 → wkB l G (d + 1) n_X9_hidden Q 152 [.ref 292, .int a1, .int a2, .int a3, .int a4, .int a5] [.int s1, .ref 329] I L R) : wkB l G (d + 1) n_X9_hidden Q 140 [.ref 292, .int a1, .int a2, .int a3, .int a4, .int a5] [.int s1, .ref 329] I L R :=
  bb_aload_n (n := 0) (i := 0) (zd (i := .aload_n 0) (n := 1) (by decide +kernel)) rfl rfl <|
  bb_getr (k := 292) (ci := 9) (j := 56) (idx := 125) (a := 328) (zd (i := .getfield 125) (n := 3) (by decide +kernel)) (by decide +kernel) (by decide +kernel) (by decide +kernel) (by decide +kernel) rfl g1184 (hR 56 (by decide)) <|
  bb_iload (i := 5) (zd (i := .iload 5) (n := 2) (by decide +kernel)) rfl <|
  bb_lift (fun _ => q_iconst (n := 1) (zd (i := .iconst (1)) (n := 1) (by decide +kernel)) rfl) <|
  bb_lift (fun _ => q_iadd (zd (i := .iadd) (n := 1) (by decide +kernel))) <|
  bb_lift (fun _ => q_zald (k := 328) (zd (i := .baload) (n := 1) (by decide +kernel)) (by decide +kernel) (by decide +kernel) h1) <|
  (fun lv hl => q_if_eq (off := 31) (tgt := 180) (zd (i := .ifCond .eq (31)) (n := 3) (by decide +kernel)) (by decide) (fun h => (kt h) lv hl) (fun h => (kf h) lv hl))
theorem w_X9_hidden_152 {Q : qQ} {I : qMI} {L : qML} {R : qMR} (hR : wkR R) {a1 : Int32} {a2 : Int32} {a3 : Int32} {a4 : Int32} {a5 : Int32} {s1 : Int32} (h1 : vp_in 96 97) {P : Int32 → qMI → qML → Prop} (hc : wkI l G d n_X9_isWatched [.ref 292, .int (a5 - 1), .int a3, .int (((I 323 (96 : Int32).toNatClampNeg) + a4) + 1)] I L R P) (kk : ∀ y I' L', P y I' L' → wkB l G (d + 1) n_X9_hidden Q 173 [.ref 292, .int a1, .int a2, .int a3, .int a4, .int a5] [.int y, .int s1, .ref 329] I' L' R) : wkB l G (d + 1) n_X9_hidden Q 152 [.ref 292, .int a1, .int a2, .int a3, .int a4, .int a5] [.int s1, .ref 329] I L R :=
  bb_aload_n (n := 0) (i := 0) (zd (i := .aload_n 0) (n := 1) (by decide +kernel)) rfl rfl <|
  bb_iload (i := 5) (zd (i := .iload 5) (n := 2) (by decide +kernel)) rfl <|
  bb_lift (fun _ => q_iconst (n := 1) (zd (i := .iconst (1)) (n := 1) (by decide +kernel)) rfl) <|
  bb_lift (fun _ => q_isub (zd (i := .isub) (n := 1) (by decide +kernel))) <|
  bb_iload_n (n := 3) (i := 3) (zd (i := .iload_n 3) (n := 1) (by decide +kernel)) rfl rfl <|
  bb_aload_n (n := 0) (i := 0) (zd (i := .aload_n 0) (n := 1) (by decide +kernel)) rfl rfl <|
  bb_getr (k := 292) (ci := 9) (j := 48) (idx := 110) (a := 323) (zd (i := .getfield 110) (n := 3) (by decide +kernel)) (by decide +kernel) (by decide +kernel) (by decide +kernel) (by decide +kernel) rfl g1176 (hR 48 (by decide)) <|
  bb_lift (fun _ => q_bipush (n := 96) (zd (i := .bipush (96)) (n := 2) (by decide +kernel)) rfl) <|
  bb_lift (fun _ => q_iald (k := 323) (zd (i := .iaload) (n := 1) (by decide +kernel)) (by decide +kernel) (by decide +kernel) h1) <|
  bb_iload (i := 4) (zd (i := .iload 4) (n := 2) (by decide +kernel)) rfl <|
  bb_lift (fun _ => q_iadd (zd (i := .iadd) (n := 1) (by decide +kernel))) <|
  bb_lift (fun _ => q_iconst (n := 1) (zd (i := .iconst (1)) (n := 1) (by decide +kernel)) rfl) <|
  bb_lift (fun _ => q_iadd (zd (i := .iadd) (n := 1) (by decide +kernel))) <|
  bb_callVI (idx := 425) (k := 292) (ci := 9) (N := n_X9_isWatched) (As := [.int (a5 - 1), .int a3, .int (((I 323 (96 : Int32).toNatClampNeg) + a4) + 1)]) (st := [.int s1, .ref 329]) (zd (i := .invokevirtual 425) (n := 3) (by decide +kernel)) to_X9_isWatched g1653 g1655 g93 (Nat.le_of_ble_eq_true rfl) (by decide +kernel) (by decide +kernel) (by decide +kernel) rfl rfl rfl hc kk
theorem w_X9_hidden_173 {Q : qQ} {I : qMI} {L : qML} {R : qMR} {a1 : Int32} {a2 : Int32} {a3 : Int32} {a4 : Int32} {a5 : Int32} {s1 : Int32} {s2 : Int32} (kt : ¬ s2 = 0 → wkB l G (d + 1) n_X9_hidden Q 180 [.ref 292, .int a1, .int a2, .int a3, .int a4, .int a5] [.int s1, .ref 329] I L R) (kf : s2 = 0 → wkB l G (d + 1) n_X9_hidden Q 176 [.ref 292, .int a1, .int a2, .int a3, .int a4, .int a5] [.int s1, .ref 329] I L R) : wkB l G (d + 1) n_X9_hidden Q 173 [.ref 292, .int a1, .int a2, .int a3, .int a4, .int a5] [.int s2, .int s1, .ref 329] I L R :=
  (fun lv hl => q_if_ne (off := 7) (tgt := 180) (zd (i := .ifCond .ne (7)) (n := 3) (by decide +kernel)) (by decide) (fun h => (kt h) lv hl) (fun h => (kf h) lv hl))
theorem w_X9_hidden_176 {Q : qQ} {I : qMI} {L : qML} {R : qMR} {a1 : Int32} {a2 : Int32} {a3 : Int32} {a4 : Int32} {a5 : Int32} {s1 : Int32} (k : wkB l G (d + 1) n_X9_hidden Q 181 [.ref 292, .int a1, .int a2, .int a3, .int a4, .int a5] [.int 1, .int s1, .ref 329] I L R) : wkB l G (d + 1) n_X9_hidden Q 176 [.ref 292, .int a1, .int a2, .int a3, .int a4, .int a5] [.int s1, .ref 329] I L R :=
  bb_lift (fun _ => q_iconst (n := 1) (zd (i := .iconst (1)) (n := 1) (by decide +kernel)) rfl) <|
  bb_lift (fun _ => q_goto (off := 4) (tgt := 181) (zd (i := .goto (4)) (n := 3) (by decide +kernel)) (by decide)) k
theorem w_X9_hidden_180 {Q : qQ} {I : qMI} {L : qML} {R : qMR} {a1 : Int32} {a2 : Int32} {a3 : Int32} {a4 : Int32} {a5 : Int32} {s1 : Int32} (k : wkB l G (d + 1) n_X9_hidden Q 181 [.ref 292, .int a1, .int a2, .int a3, .int a4, .int a5] [.int 0, .int s1, .ref 329] I L R) : wkB l G (d + 1) n_X9_hidden Q 180 [.ref 292, .int a1, .int a2, .int a3, .int a4, .int a5] [.int s1, .ref 329] I L R :=
  bb_lift (fun _ => q_iconst (n := 0) (zd (i := .iconst (0)) (n := 1) (by decide +kernel)) rfl) <|
  k
theorem w_X9_hidden_181 {Q : qQ} {I : qMI} {L : qML} {R : qMR} {a1 : Int32} {a2 : Int32} {a3 : Int32} {a4 : Int32} {a5 : Int32} {s1 : Int32} {s2 : Int32} (h1 : vp_in s1 22) (k : wkB l G (d + 1) n_X9_hidden Q 105 [.ref 292, .int a1, .int a2, .int a3, .int a4, .int (a5 + 1)] [] (qUp I 329 s1.toNatClampNeg (vp_nar .boolean s2)) L R) : wkB l G (d + 1) n_X9_hidden Q 181 [.ref 292, .int a1, .int a2, .int a3, .int a4, .int a5] [.int s2, .int s1, .ref 329] I L R :=
  bb_lift (fun _ => q_zast (k := 329) (zd (i := .bastore) (n := 1) (by decide +kernel)) (by decide +kernel) (by decide +kernel) h1) <|
  bb_iinc (i := 5) (n := 1) (zd (i := .iinc 5 (1)) (n := 3) (by decide +kernel)) rfl rfl (by decide +kernel) (wkNl_i rfl) <|
  bb_lift (fun _ => q_goto (off := -80) (tgt := 105) (zd (i := .goto (-80)) (n := 3) (by decide +kernel)) (by decide)) k
theorem w_X9_hidden_188 {Q : qQ} {I : qMI} {L : qML} {R : qMR} {a1 : Int32} {a2 : Int32} {a3 : Int32} {a4 : Int32} {a5 : Int32} (k : wkB l G (d + 1) n_X9_hidden Q 191 [.ref 292, .int a1, .int a2, .int a3, .int a4, .int 1] [] I L R) : wkB l G (d + 1) n_X9_hidden Q 188 [.ref 292, .int a1, .int a2, .int a3, .int a4, .int a5] [] I L R :=
  bb_lift (fun _ => q_iconst (n := 1) (zd (i := .iconst (1)) (n := 1) (by decide +kernel)) rfl) <|
  bb_istore (i := 5) (zd (i := .istore 5) (n := 2) (by decide +kernel)) (by decide +kernel) (wkNl_i rfl) <|
  k
theorem w_X9_hidden_191 {Q : qQ} {I : qMI} {L : qML} {R : qMR} {a1 : Int32} {a2 : Int32} {a3 : Int32} {a4 : Int32} {a5 : Int32} (kt : 20 < a5 → wkB l G (d + 1) n_X9_hidden Q 218 [.ref 292, .int a1, .int a2, .int a3, .int a4, .int a5] [] I L R) (kf : ¬ 20 < a5 → wkB l G (d + 1) n_X9_hidden Q 198 [.ref 292, .int a1, .int a2, .int a3, .int a4, .int a5] [] I L R) : wkB l G (d + 1) n_X9_hidden Q 191 [.ref 292, .int a1, .int a2, .int a3, .int a4, .int a5] [] I L R :=
  bb_iload (i := 5) (zd (i := .iload 5) (n := 2) (by decide +kernel)) rfl <|
  bb_lift (fun _ => q_bipush (n := 20) (zd (i := .bipush (20)) (n := 2) (by decide +kernel)) rfl) <|
  (fun lv hl => q_icmp_gt (off := 23) (tgt := 218) (zd (i := .if_icmp .gt (23)) (n := 3) (by decide +kernel)) (by decide) (fun h => (kt h) lv hl) (fun h => (kf h) lv hl))
theorem w_X9_hidden_198 {Q : qQ} {I : qMI} {L : qML} {R : qMR} (hR : wkR R) {a1 : Int32} {a2 : Int32} {a3 : Int32} {a4 : Int32} {a5 : Int32} (h1 : vp_in a5 22) (h2 : vp_in a5 22) (k : wkB l G (d + 1) n_X9_hidden Q 191 [.ref 292, .int a1, .int a2, .int a3, .int a4, .int (a5 + 1)] [] (qUp I 328 a5.toNatClampNeg (vp_nar .boolean (I 329 a5.toNatClampNeg))) L R) : wkB l G (d + 1) n_X9_hidden Q 198 [.ref 292, .int a1, .int a2, .int a3, .int a4, .int a5] [] I L R :=
  bb_aload_n (n := 0) (i := 0) (zd (i := .aload_n 0) (n := 1) (by decide +kernel)) rfl rfl <|
  bb_getr (k := 292) (ci := 9) (j := 56) (idx := 125) (a := 328) (zd (i := .getfield 125) (n := 3) (by decide +kernel)) (by decide +kernel) (by decide +kernel) (by decide +kernel) (by decide +kernel) rfl g1184 (hR 56 (by decide)) <|
  bb_iload (i := 5) (zd (i := .iload 5) (n := 2) (by decide +kernel)) rfl <|
  bb_aload_n (n := 0) (i := 0) (zd (i := .aload_n 0) (n := 1) (by decide +kernel)) rfl rfl <|
  bb_getr (k := 292) (ci := 9) (j := 57) (idx := 128) (a := 329) (zd (i := .getfield 128) (n := 3) (by decide +kernel)) (by decide +kernel) (by decide +kernel) (by decide +kernel) (by decide +kernel) rfl g1185 (hR 57 (by decide)) <|
  bb_iload (i := 5) (zd (i := .iload 5) (n := 2) (by decide +kernel)) rfl <|
  bb_lift (fun _ => q_zald (k := 329) (zd (i := .baload) (n := 1) (by decide +kernel)) (by decide +kernel) (by decide +kernel) h1) <|
  bb_lift (fun _ => q_zast (k := 328) (zd (i := .bastore) (n := 1) (by decide +kernel)) (by decide +kernel) (by decide +kernel) h2) <|
  bb_iinc (i := 5) (n := 1) (zd (i := .iinc 5 (1)) (n := 3) (by decide +kernel)) rfl rfl (by decide +kernel) (wkNl_i rfl) <|
  bb_lift (fun _ => q_goto (off := -24) (tgt := 191) (zd (i := .goto (-24)) (n := 3) (by decide +kernel)) (by decide)) k
theorem w_X9_hidden_218 {Q : qQ} {I : qMI} {L : qML} {R : qMR} {a1 : Int32} {a2 : Int32} {a3 : Int32} {a4 : Int32} {a5 : Int32} (k : wkB l G (d + 1) n_X9_hidden Q 81 [.ref 292, .int a1, .int a2, .int a3, .int (a4 + 1), wkU] [] I L R) : wkB l G (d + 1) n_X9_hidden Q 218 [.ref 292, .int a1, .int a2, .int a3, .int a4, .int a5] [] I L R :=
  bb_iinc (i := 4) (n := 1) (zd (i := .iinc 4 (1)) (n := 3) (by decide +kernel)) rfl rfl (by decide +kernel) (wkNl_i rfl) <|
  bb_lift (fun _ => q_goto (off := -140) (tgt := 81) (zd (i := .goto (-140)) (n := 3) (by decide +kernel)) (by decide)) (wkB_le (vs := [.ref 292, .int a1, .int a2, .int a3, .int (a4 + 1), wkU]) (ws := [.ref 292, .int a1, .int a2, .int a3, .int (a4 + 1), .int a5]) ⟨Or.inr rfl, Or.inr rfl, Or.inr rfl, Or.inr rfl, Or.inr rfl, Or.inl rfl, trivial⟩ (k))
theorem w_X9_hidden_224 {Q : qQ} {I : qMI} {L : qML} {R : qMR} {a1 : Int32} {a2 : Int32} {a3 : Int32} {a4 : Int32} (hQ : Q (some (.int (-2))) 336 I L R) : wkB l G (d + 1) n_X9_hidden Q 224 [.ref 292, .int a1, .int a2, .int a3, .int a4, wkU] [] I L R :=
  bb_lift (fun _ => q_bipush (n := -2) (zd (i := .bipush (-2)) (n := 2) (by decide +kernel)) rfl) <|
  (fun lv hl => q_iret (zd (i := .ireturn) (n := 1) (by decide +kernel)) rfl rfl (Nat.le_refl _) (Nat.le_refl _) hQ)
theorem w_X9_umbrellas_0 {Q : qQ} {I : qMI} {L : qML} {R : qMR} {a1 : Int32} {a2 : Int32} {P : Int32 → qMI → qML → Prop} (hc : wkI l G d n_X9_in [.int a1, .int 1, .int 3] I L R P) (kk : ∀ y I' L', P y I' L' → wkB l G (d + 1) n_X9_umbrellas Q 6 [.ref 292, .int a1, .int a2, wkU, wkU, wkU] [.int y] I' L' R) : wkB l G (d + 1) n_X9_umbrellas Q 0 [.ref 292, .int a1, .int a2, wkU, wkU, wkU] [] I L R :=
  bb_iload_n (n := 1) (i := 1) (zd (i := .iload_n 1) (n := 1) (by decide +kernel)) rfl rfl <|
  bb_lift (fun _ => q_iconst (n := 1) (zd (i := .iconst (1)) (n := 1) (by decide +kernel)) rfl) <|
  bb_lift (fun _ => q_iconst (n := 3) (zd (i := .iconst (3)) (n := 1) (by decide +kernel)) rfl) <|
  bb_callSI (idx := 304) (N := n_X9_in) (As := [.int a1, .int 1, .int 3]) (st := []) (zd (i := .invokestatic 304) (n := 3) (by decide +kernel)) to_X9_in g1442 g1443 (Nat.le_of_ble_eq_true rfl) rfl rfl hc kk
theorem w_X9_umbrellas_6 {Q : qQ} {I : qMI} {L : qML} {R : qMR} {a1 : Int32} {a2 : Int32} {s0 : Int32} (kt : s0 = 0 → wkB l G (d + 1) n_X9_umbrellas Q 20 [.ref 292, .int a1, .int a2, wkU, wkU, wkU] [] I L R) (kf : ¬ s0 = 0 → wkB l G (d + 1) n_X9_umbrellas Q 9 [.ref 292, .int a1, .int a2, wkU, wkU, wkU] [] I L R) : wkB l G (d + 1) n_X9_umbrellas Q 6 [.ref 292, .int a1, .int a2, wkU, wkU, wkU] [.int s0] I L R :=
  (fun lv hl => q_if_eq (off := 14) (tgt := 20) (zd (i := .ifCond .eq (14)) (n := 3) (by decide +kernel)) (by decide) (fun h => (kt h) lv hl) (fun h => (kf h) lv hl))
theorem w_X9_umbrellas_9 {Q : qQ} {I : qMI} {L : qML} {R : qMR} {a1 : Int32} {a2 : Int32} {P : Int32 → qMI → qML → Prop} (hc : wkI l G d n_X9_in [.int a2, .int (-1), .int (a1 - 1)] I L R P) (kk : ∀ y I' L', P y I' L' → wkB l G (d + 1) n_X9_umbrellas Q 17 [.ref 292, .int a1, .int a2, wkU, wkU, wkU] [.int y] I' L' R) : wkB l G (d + 1) n_X9_umbrellas Q 9 [.ref 292, .int a1, .int a2, wkU, wkU, wkU] [] I L R :=
  bb_iload_n (n := 2) (i := 2) (zd (i := .iload_n 2) (n := 1) (by decide +kernel)) rfl rfl <|
  bb_lift (fun _ => q_iconst (n := -1) (zd (i := .iconst (-1)) (n := 1) (by decide +kernel)) rfl) <|
  bb_iload_n (n := 1) (i := 1) (zd (i := .iload_n 1) (n := 1) (by decide +kernel)) rfl rfl <|
  bb_lift (fun _ => q_iconst (n := 1) (zd (i := .iconst (1)) (n := 1) (by decide +kernel)) rfl) <|
  bb_lift (fun _ => q_isub (zd (i := .isub) (n := 1) (by decide +kernel))) <|
  bb_callSI (idx := 304) (N := n_X9_in) (As := [.int a2, .int (-1), .int (a1 - 1)]) (st := []) (zd (i := .invokestatic 304) (n := 3) (by decide +kernel)) to_X9_in g1442 g1443 (Nat.le_of_ble_eq_true rfl) rfl rfl hc kk
theorem w_X9_umbrellas_17 {Q : qQ} {I : qMI} {L : qML} {R : qMR} {a1 : Int32} {a2 : Int32} {s0 : Int32} (kt : ¬ s0 = 0 → wkB l G (d + 1) n_X9_umbrellas Q 22 [.ref 292, .int a1, .int a2, wkU, wkU, wkU] [] I L R) (kf : s0 = 0 → wkB l G (d + 1) n_X9_umbrellas Q 20 [.ref 292, .int a1, .int a2, wkU, wkU, wkU] [] I L R) : wkB l G (d + 1) n_X9_umbrellas Q 17 [.ref 292, .int a1, .int a2, wkU, wkU, wkU] [.int s0] I L R :=
  (fun lv hl => q_if_ne (off := 5) (tgt := 22) (zd (i := .ifCond .ne (5)) (n := 3) (by decide +kernel)) (by decide) (fun h => (kt h) lv hl) (fun h => (kf h) lv hl))
theorem w_X9_umbrellas_20 {Q : qQ} {I : qMI} {L : qML} {R : qMR} {a1 : Int32} {a2 : Int32} (hQ : Q (some (.int (-1))) 336 I L R) : wkB l G (d + 1) n_X9_umbrellas Q 20 [.ref 292, .int a1, .int a2, wkU, wkU, wkU] [] I L R :=
  bb_lift (fun _ => q_iconst (n := -1) (zd (i := .iconst (-1)) (n := 1) (by decide +kernel)) rfl) <|
  (fun lv hl => q_iret (zd (i := .ireturn) (n := 1) (by decide +kernel)) rfl rfl (Nat.le_refl _) (Nat.le_refl _) hQ)
theorem w_X9_umbrellas_22 {Q : qQ} {I : qMI} {L : qML} {R : qMR} {a1 : Int32} {a2 : Int32} {P : qMI → qML → Prop} (hc : wkV l G d n_X9_fillsSeen [.ref 292] I L R P) (kk : ∀ I' L', P I' L' → wkB l G (d + 1) n_X9_umbrellas Q 26 [.ref 292, .int a1, .int a2, wkU, wkU, wkU] [] I' L' R) : wkB l G (d + 1) n_X9_umbrellas Q 22 [.ref 292, .int a1, .int a2, wkU, wkU, wkU] [] I L R :=
  bb_aload_n (n := 0) (i := 0) (zd (i := .aload_n 0) (n := 1) (by decide +kernel)) rfl rfl <|
  bb_callVV (idx := 418) (k := 292) (ci := 9) (N := n_X9_fillsSeen) (As := []) (st := []) (zd (i := .invokevirtual 418) (n := 3) (by decide +kernel)) to_X9_fillsSeen g1625 g1627 g91 (Nat.le_of_ble_eq_true rfl) (by decide +kernel) (by decide +kernel) (by decide +kernel) rfl rfl rfl hc kk
theorem w_X9_umbrellas_26 {Q : qQ} {I : qMI} {L : qML} {R : qMR} {a1 : Int32} {a2 : Int32} (k : wkB l G (d + 1) n_X9_umbrellas Q 33 [.ref 292, .int a1, .int a2, .int 0, wkU, wkU] [] (qUp I 292 55 (-1)) L R) : wkB l G (d + 1) n_X9_umbrellas Q 26 [.ref 292, .int a1, .int a2, wkU, wkU, wkU] [] I L R :=
  bb_aload_n (n := 0) (i := 0) (zd (i := .aload_n 0) (n := 1) (by decide +kernel)) rfl rfl <|
  bb_lift (fun _ => q_iconst (n := -1) (zd (i := .iconst (-1)) (n := 1) (by decide +kernel)) rfl) <|
  bb_puti (k := 292) (ci := 9) (j := 55) (idx := 415) (zd (i := .putfield 415) (n := 3) (by decide +kernel)) (by decide +kernel) (by decide +kernel) (by decide +kernel) (by decide +kernel) g1183 rfl rfl <|
  bb_lift (fun _ => q_iconst (n := 0) (zd (i := .iconst (0)) (n := 1) (by decide +kernel)) rfl) <|
  bb_istore_n (n := 3) (i := 3) (zd (i := .istore_n 3) (n := 1) (by decide +kernel)) rfl (by decide +kernel) (wkNl_i rfl) <|
  k
theorem w_X9_umbrellas_33 {Q : qQ} {I : qMI} {L : qML} {R : qMR} {a1 : Int32} {a2 : Int32} {a3 : Int32} (kt : (20 - a1) < a3 → wkB l G (d + 1) n_X9_umbrellas Q 119 [.ref 292, .int a1, .int a2, .int a3, wkU, wkU] [] I L R) (kf : ¬ (20 - a1) < a3 → wkB l G (d + 1) n_X9_umbrellas Q 41 [.ref 292, .int a1, .int a2, .int a3, wkU, wkU] [] I L R) : wkB l G (d + 1) n_X9_umbrellas Q 33 [.ref 292, .int a1, .int a2, .int a3, wkU, wkU] [] I L R :=
  bb_iload_n (n := 3) (i := 3) (zd (i := .iload_n 3) (n := 1) (by decide +kernel)) rfl rfl <|
  bb_lift (fun _ => q_bipush (n := 20) (zd (i := .bipush (20)) (n := 2) (by decide +kernel)) rfl) <|
  bb_iload_n (n := 1) (i := 1) (zd (i := .iload_n 1) (n := 1) (by decide +kernel)) rfl rfl <|
  bb_lift (fun _ => q_isub (zd (i := .isub) (n := 1) (by decide +kernel))) <|
  (fun lv hl => q_icmp_gt (off := 81) (tgt := 119) (zd (i := .if_icmp .gt (81)) (n := 3) (by decide +kernel)) (by decide) (fun h => (kt h) lv hl) (fun h => (kf h) lv hl))
theorem w_X9_umbrellas_41 {Q : qQ} {I : qMI} {L : qML} {R : qMR} {a1 : Int32} {a2 : Int32} {a3 : Int32} (k : wkB l G (d + 1) n_X9_umbrellas Q 46 [.ref 292, .int a1, .int a2, .int a3, .int (a3 + 1), wkU] [] I L R) : wkB l G (d + 1) n_X9_umbrellas Q 41 [.ref 292, .int a1, .int a2, .int a3, wkU, wkU] [] I L R :=
  bb_iload_n (n := 3) (i := 3) (zd (i := .iload_n 3) (n := 1) (by decide +kernel)) rfl rfl <|
  bb_lift (fun _ => q_iconst (n := 1) (zd (i := .iconst (1)) (n := 1) (by decide +kernel)) rfl) <|
  bb_lift (fun _ => q_iadd (zd (i := .iadd) (n := 1) (by decide +kernel))) <|
  bb_istore (i := 4) (zd (i := .istore 4) (n := 2) (by decide +kernel)) (by decide +kernel) (wkNl_i rfl) <|
  k
theorem w_X9_umbrellas_46 {Q : qQ} {I : qMI} {L : qML} {R : qMR} {a1 : Int32} {a2 : Int32} {a3 : Int32} {a4 : Int32} (kt : a1 ≤ 1 → wkB l G (d + 1) n_X9_umbrellas Q 60 [.ref 292, .int a1, .int a2, .int a3, .int a4, wkU] [.int a4] I L R) (kf : ¬ a1 ≤ 1 → wkB l G (d + 1) n_X9_umbrellas Q 53 [.ref 292, .int a1, .int a2, .int a3, .int a4, wkU] [.int a4] I L R) : wkB l G (d + 1) n_X9_umbrellas Q 46 [.ref 292, .int a1, .int a2, .int a3, .int a4, wkU] [] I L R :=
  bb_iload (i := 4) (zd (i := .iload 4) (n := 2) (by decide +kernel)) rfl <|
  bb_iload_n (n := 1) (i := 1) (zd (i := .iload_n 1) (n := 1) (by decide +kernel)) rfl rfl <|
  bb_lift (fun _ => q_iconst (n := 1) (zd (i := .iconst (1)) (n := 1) (by decide +kernel)) rfl) <|
  (fun lv hl => q_icmp_le (off := 10) (tgt := 60) (zd (i := .if_icmp .le (10)) (n := 3) (by decide +kernel)) (by decide) (fun h => (kt h) lv hl) (fun h => (kf h) lv hl))
theorem w_X9_umbrellas_53 {Q : qQ} {I : qMI} {L : qML} {R : qMR} {a1 : Int32} {a2 : Int32} {a3 : Int32} {a4 : Int32} {s0 : Int32} (k : wkB l G (d + 1) n_X9_umbrellas Q 63 [.ref 292, .int a1, .int a2, .int a3, .int a4, wkU] [.int (21 - a1), .int s0] I L R) : wkB l G (d + 1) n_X9_umbrellas Q 53 [.ref 292, .int a1, .int a2, .int a3, .int a4, wkU] [.int s0] I L R :=
  bb_lift (fun _ => q_bipush (n := 21) (zd (i := .bipush (21)) (n := 2) (by decide +kernel)) rfl) <|
  bb_iload_n (n := 1) (i := 1) (zd (i := .iload_n 1) (n := 1) (by decide +kernel)) rfl rfl <|
  bb_lift (fun _ => q_isub (zd (i := .isub) (n := 1) (by decide +kernel))) <|
  bb_lift (fun _ => q_goto (off := 6) (tgt := 63) (zd (i := .goto (6)) (n := 3) (by decide +kernel)) (by decide)) k
theorem w_X9_umbrellas_60 {Q : qQ} {I : qMI} {L : qML} {R : qMR} {a1 : Int32} {a2 : Int32} {a3 : Int32} {a4 : Int32} {s0 : Int32} (k : wkB l G (d + 1) n_X9_umbrellas Q 63 [.ref 292, .int a1, .int a2, .int a3, .int a4, wkU] [.int (a3 + 1), .int s0] I L R) : wkB l G (d + 1) n_X9_umbrellas Q 60 [.ref 292, .int a1, .int a2, .int a3, .int a4, wkU] [.int s0] I L R :=
  bb_iload_n (n := 3) (i := 3) (zd (i := .iload_n 3) (n := 1) (by decide +kernel)) rfl rfl <|
  bb_lift (fun _ => q_iconst (n := 1) (zd (i := .iconst (1)) (n := 1) (by decide +kernel)) rfl) <|
  bb_lift (fun _ => q_iadd (zd (i := .iadd) (n := 1) (by decide +kernel))) <|
  k
theorem w_X9_umbrellas_63 {Q : qQ} {I : qMI} {L : qML} {R : qMR} {a1 : Int32} {a2 : Int32} {a3 : Int32} {a4 : Int32} {s0 : Int32} {s1 : Int32} (kt : s1 < s0 → wkB l G (d + 1) n_X9_umbrellas Q 113 [.ref 292, .int a1, .int a2, .int a3, .int a4, wkU] [] I L R) (kf : ¬ s1 < s0 → wkB l G (d + 1) n_X9_umbrellas Q 66 [.ref 292, .int a1, .int a2, .int a3, .int a4, wkU] [] I L R) : wkB l G (d + 1) n_X9_umbrellas Q 63 [.ref 292, .int a1, .int a2, .int a3, .int a4, wkU] [.int s1, .int s0] I L R :=
  (fun lv hl => q_icmp_gt (off := 50) (tgt := 113) (zd (i := .if_icmp .gt (50)) (n := 3) (by decide +kernel)) (by decide) (fun h => (kt h) lv hl) (fun h => (kf h) lv hl))
theorem w_X9_umbrellas_66 {Q : qQ} {I : qMI} {L : qML} {R : qMR} {a1 : Int32} {a2 : Int32} {a3 : Int32} {a4 : Int32} (k : wkB l G (d + 1) n_X9_umbrellas Q 72 [.ref 292, .int a1, .int a2, .int a3, .int a4, .int (a4 + 1)] [] I L R) : wkB l G (d + 1) n_X9_umbrellas Q 66 [.ref 292, .int a1, .int a2, .int a3, .int a4, wkU] [] I L R :=
  bb_iload (i := 4) (zd (i := .iload 4) (n := 2) (by decide +kernel)) rfl <|
  bb_lift (fun _ => q_iconst (n := 1) (zd (i := .iconst (1)) (n := 1) (by decide +kernel)) rfl) <|
  bb_lift (fun _ => q_iadd (zd (i := .iadd) (n := 1) (by decide +kernel))) <|
  bb_istore (i := 5) (zd (i := .istore 5) (n := 2) (by decide +kernel)) (by decide +kernel) (wkNl_i rfl) <|
  k
theorem w_X9_umbrellas_72 {Q : qQ} {I : qMI} {L : qML} {R : qMR} {a1 : Int32} {a2 : Int32} {a3 : Int32} {a4 : Int32} {a5 : Int32} (kt : a1 ≤ 2 → wkB l G (d + 1) n_X9_umbrellas Q 84 [.ref 292, .int a1, .int a2, .int a3, .int a4, .int a5] [.int a5] I L R) (kf : ¬ a1 ≤ 2 → wkB l G (d + 1) n_X9_umbrellas Q 79 [.ref 292, .int a1, .int a2, .int a3, .int a4, .int a5] [.int a5] I L R) : wkB l G (d + 1) n_X9_umbrellas Q 72 [.ref 292, .int a1, .int a2, .int a3, .int a4, .int a5] [] I L R :=
  bb_iload (i := 5) (zd (i := .iload 5) (n := 2) (by decide +kernel)) rfl <|
  bb_iload_n (n := 1) (i := 1) (zd (i := .iload_n 1) (n := 1) (by decide +kernel)) rfl rfl <|
  bb_lift (fun _ => q_iconst (n := 2) (zd (i := .iconst (2)) (n := 1) (by decide +kernel)) rfl) <|
  (fun lv hl => q_icmp_le (off := 8) (tgt := 84) (zd (i := .if_icmp .le (8)) (n := 3) (by decide +kernel)) (by decide) (fun h => (kt h) lv hl) (fun h => (kf h) lv hl))
theorem w_X9_umbrellas_79 {Q : qQ} {I : qMI} {L : qML} {R : qMR} {a1 : Int32} {a2 : Int32} {a3 : Int32} {a4 : Int32} {a5 : Int32} {s0 : Int32} (k : wkB l G (d + 1) n_X9_umbrellas Q 88 [.ref 292, .int a1, .int a2, .int a3, .int a4, .int a5] [.int 19, .int s0] I L R) : wkB l G (d + 1) n_X9_umbrellas Q 79 [.ref 292, .int a1, .int a2, .int a3, .int a4, .int a5] [.int s0] I L R :=
  bb_lift (fun _ => q_bipush (n := 19) (zd (i := .bipush (19)) (n := 2) (by decide +kernel)) rfl) <|
  bb_lift (fun _ => q_goto (off := 7) (tgt := 88) (zd (i := .goto (7)) (n := 3) (by decide +kernel)) (by decide)) k
theorem w_X9_umbrellas_84 {Q : qQ} {I : qMI} {L : qML} {R : qMR} {a1 : Int32} {a2 : Int32} {a3 : Int32} {a4 : Int32} {a5 : Int32} {s0 : Int32} (k : wkB l G (d + 1) n_X9_umbrellas Q 88 [.ref 292, .int a1, .int a2, .int a3, .int a4, .int a5] [.int (a4 + 1), .int s0] I L R) : wkB l G (d + 1) n_X9_umbrellas Q 84 [.ref 292, .int a1, .int a2, .int a3, .int a4, .int a5] [.int s0] I L R :=
  bb_iload (i := 4) (zd (i := .iload 4) (n := 2) (by decide +kernel)) rfl <|
  bb_lift (fun _ => q_iconst (n := 1) (zd (i := .iconst (1)) (n := 1) (by decide +kernel)) rfl) <|
  bb_lift (fun _ => q_iadd (zd (i := .iadd) (n := 1) (by decide +kernel))) <|
  k
theorem w_X9_umbrellas_88 {Q : qQ} {I : qMI} {L : qML} {R : qMR} {a1 : Int32} {a2 : Int32} {a3 : Int32} {a4 : Int32} {a5 : Int32} {s0 : Int32} {s1 : Int32} (kt : s1 < s0 → wkB l G (d + 1) n_X9_umbrellas Q 107 [.ref 292, .int a1, .int a2, .int a3, .int a4, .int a5] [] I L R) (kf : ¬ s1 < s0 → wkB l G (d + 1) n_X9_umbrellas Q 91 [.ref 292, .int a1, .int a2, .int a3, .int a4, .int a5] [] I L R) : wkB l G (d + 1) n_X9_umbrellas Q 88 [.ref 292, .int a1, .int a2, .int a3, .int a4, .int a5] [.int s1, .int s0] I L R :=
  (fun lv hl => q_icmp_gt (off := 19) (tgt := 107) (zd (i := .if_icmp .gt (19)) (n := 3) (by decide +kernel)) (by decide) (fun h => (kt h) lv hl) (fun h => (kf h) lv hl))
theorem w_X9_umbrellas_91 {Q : qQ} {I : qMI} {L : qML} {R : qMR} {a1 : Int32} {a2 : Int32} {a3 : Int32} {a4 : Int32} {a5 : Int32} {P : qMI → qML → Prop} (hc : wkV l G d n_X9_tries [.ref 292, .int a1, .int a3, .int a4, .int a5] I L R P) (kk : ∀ I' L', P I' L' → wkB l G (d + 1) n_X9_umbrellas Q 101 [.ref 292, .int a1, .int a2, .int a3, .int a4, .int a5] [] I' L' R) : wkB l G (d + 1) n_X9_umbrellas Q 91 [.ref 292, .int a1, .int a2, .int a3, .int a4, .int a5] [] I L R :=
  bb_aload_n (n := 0) (i := 0) (zd (i := .aload_n 0) (n := 1) (by decide +kernel)) rfl rfl <|
  bb_iload_n (n := 1) (i := 1) (zd (i := .iload_n 1) (n := 1) (by decide +kernel)) rfl rfl <|
  bb_iload_n (n := 3) (i := 3) (zd (i := .iload_n 3) (n := 1) (by decide +kernel)) rfl rfl <|
  bb_iload (i := 4) (zd (i := .iload 4) (n := 2) (by decide +kernel)) rfl <|
  bb_iload (i := 5) (zd (i := .iload 5) (n := 2) (by decide +kernel)) rfl <|
  bb_callVV (idx := 421) (k := 292) (ci := 9) (N := n_X9_tries) (As := [.int a1, .int a3, .int a4, .int a5]) (st := []) (zd (i := .invokevirtual 421) (n := 3) (by decide +kernel)) to_X9_tries g1629 g1631 g92 (Nat.le_of_ble_eq_true rfl) (by decide +kernel) (by decide +kernel) (by decide +kernel) rfl rfl rfl hc kk
theorem w_X9_umbrellas_101 {Q : qQ} {I : qMI} {L : qML} {R : qMR} {a1 : Int32} {a2 : Int32} {a3 : Int32} {a4 : Int32} {a5 : Int32} (k : wkB l G (d + 1) n_X9_umbrellas Q 72 [.ref 292, .int a1, .int a2, .int a3, .int a4, .int (a5 + 1)] [] I L R) : wkB l G (d + 1) n_X9_umbrellas Q 101 [.ref 292, .int a1, .int a2, .int a3, .int a4, .int a5] [] I L R :=
  bb_iinc (i := 5) (n := 1) (zd (i := .iinc 5 (1)) (n := 3) (by decide +kernel)) rfl rfl (by decide +kernel) (wkNl_i rfl) <|
  bb_lift (fun _ => q_goto (off := -32) (tgt := 72) (zd (i := .goto (-32)) (n := 3) (by decide +kernel)) (by decide)) k
theorem w_X9_umbrellas_107 {Q : qQ} {I : qMI} {L : qML} {R : qMR} {a1 : Int32} {a2 : Int32} {a3 : Int32} {a4 : Int32} {a5 : Int32} (k : wkB l G (d + 1) n_X9_umbrellas Q 46 [.ref 292, .int a1, .int a2, .int a3, .int (a4 + 1), wkU] [] I L R) : wkB l G (d + 1) n_X9_umbrellas Q 107 [.ref 292, .int a1, .int a2, .int a3, .int a4, .int a5] [] I L R :=
  bb_iinc (i := 4) (n := 1) (zd (i := .iinc 4 (1)) (n := 3) (by decide +kernel)) rfl rfl (by decide +kernel) (wkNl_i rfl) <|
  bb_lift (fun _ => q_goto (off := -64) (tgt := 46) (zd (i := .goto (-64)) (n := 3) (by decide +kernel)) (by decide)) (wkB_le (vs := [.ref 292, .int a1, .int a2, .int a3, .int (a4 + 1), wkU]) (ws := [.ref 292, .int a1, .int a2, .int a3, .int (a4 + 1), .int a5]) ⟨Or.inr rfl, Or.inr rfl, Or.inr rfl, Or.inr rfl, Or.inr rfl, Or.inl rfl, trivial⟩ (k))
theorem w_X9_umbrellas_113 {Q : qQ} {I : qMI} {L : qML} {R : qMR} {a1 : Int32} {a2 : Int32} {a3 : Int32} {a4 : Int32} (k : wkB l G (d + 1) n_X9_umbrellas Q 33 [.ref 292, .int a1, .int a2, .int (a3 + 1), wkU, wkU] [] I L R) : wkB l G (d + 1) n_X9_umbrellas Q 113 [.ref 292, .int a1, .int a2, .int a3, .int a4, wkU] [] I L R :=
  bb_iinc (i := 3) (n := 1) (zd (i := .iinc 3 (1)) (n := 3) (by decide +kernel)) rfl rfl (by decide +kernel) (wkNl_i rfl) <|
  bb_lift (fun _ => q_goto (off := -83) (tgt := 33) (zd (i := .goto (-83)) (n := 3) (by decide +kernel)) (by decide)) (wkB_le (vs := [.ref 292, .int a1, .int a2, .int (a3 + 1), wkU, wkU]) (ws := [.ref 292, .int a1, .int a2, .int (a3 + 1), .int a4, wkU]) ⟨Or.inr rfl, Or.inr rfl, Or.inr rfl, Or.inr rfl, Or.inl rfl, Or.inr rfl, trivial⟩ (k))
theorem w_X9_umbrellas_119 {Q : qQ} {I : qMI} {L : qML} {R : qMR} {a1 : Int32} {a2 : Int32} {a3 : Int32} (kt : ¬ a2 = (-1) → wkB l G (d + 1) n_X9_umbrellas Q 131 [.ref 292, .int a1, .int a2, .int a3, wkU, wkU] [] I L R) (kf : a2 = (-1) → wkB l G (d + 1) n_X9_umbrellas Q 124 [.ref 292, .int a1, .int a2, .int a3, wkU, wkU] [] I L R) : wkB l G (d + 1) n_X9_umbrellas Q 119 [.ref 292, .int a1, .int a2, .int a3, wkU, wkU] [] I L R :=
  bb_iload_n (n := 2) (i := 2) (zd (i := .iload_n 2) (n := 1) (by decide +kernel)) rfl rfl <|
  bb_lift (fun _ => q_iconst (n := -1) (zd (i := .iconst (-1)) (n := 1) (by decide +kernel)) rfl) <|
  (fun lv hl => q_icmp_ne (off := 10) (tgt := 131) (zd (i := .if_icmp .ne (10)) (n := 3) (by decide +kernel)) (by decide) (fun h => (kt h) lv hl) (fun h => (kf h) lv hl))
theorem w_X9_umbrellas_124 {Q : qQ} {I : qMI} {L : qML} {R : qMR} {a1 : Int32} {a2 : Int32} {a3 : Int32} (k : wkB l G (d + 1) n_X9_umbrellas Q 137 [.ref 292, .int a1, .int a2, .int a3, wkU, wkU] [.int (I 292 55)] I L R) : wkB l G (d + 1) n_X9_umbrellas Q 124 [.ref 292, .int a1, .int a2, .int a3, wkU, wkU] [] I L R :=
  bb_aload_n (n := 0) (i := 0) (zd (i := .aload_n 0) (n := 1) (by decide +kernel)) rfl rfl <|
  bb_geti (k := 292) (ci := 9) (j := 55) (idx := 415) (zd (i := .getfield 415) (n := 3) (by decide +kernel)) (by decide +kernel) (by decide +kernel) (by decide +kernel) (by decide +kernel) rfl g1183 <|
  bb_lift (fun _ => q_goto (off := 9) (tgt := 137) (zd (i := .goto (9)) (n := 3) (by decide +kernel)) (by decide)) k
theorem w_X9_umbrellas_131 {Q : qQ} {I : qMI} {L : qML} {R : qMR} (hR : wkR R) {a1 : Int32} {a2 : Int32} {a3 : Int32} (h1 : vp_in a2 3) (k : wkB l G (d + 1) n_X9_umbrellas Q 137 [.ref 292, .int a1, .int a2, .int a3, wkU, wkU] [.int (I 327 a2.toNatClampNeg)] I L R) : wkB l G (d + 1) n_X9_umbrellas Q 131 [.ref 292, .int a1, .int a2, .int a3, wkU, wkU] [] I L R :=
  bb_aload_n (n := 0) (i := 0) (zd (i := .aload_n 0) (n := 1) (by decide +kernel)) rfl rfl <|
  bb_getr (k := 292) (ci := 9) (j := 54) (idx := 122) (a := 327) (zd (i := .getfield 122) (n := 3) (by decide +kernel)) (by decide +kernel) (by decide +kernel) (by decide +kernel) (by decide +kernel) rfl g1182 (hR 54 (by decide)) <|
  bb_iload_n (n := 2) (i := 2) (zd (i := .iload_n 2) (n := 1) (by decide +kernel)) rfl rfl <|
  bb_lift (fun _ => q_iald (k := 327) (zd (i := .iaload) (n := 1) (by decide +kernel)) (by decide +kernel) (by decide +kernel) h1) <|
  k
theorem w_X9_umbrellas_137 {Q : qQ} {I : qMI} {L : qML} {R : qMR} {a1 : Int32} {a2 : Int32} {a3 : Int32} {s0 : Int32} (hQ : Q (some (.int s0)) 336 I L R) : wkB l G (d + 1) n_X9_umbrellas Q 137 [.ref 292, .int a1, .int a2, .int a3, wkU, wkU] [.int s0] I L R :=
  (fun lv hl => q_iret (zd (i := .ireturn) (n := 1) (by decide +kernel)) rfl rfl (Nat.le_refl _) (Nat.le_refl _) hQ)
theorem w_X9_fillsSeen_0 {Q : qQ} {I : qMI} {L : qML} {R : qMR}  (k : wkB l G (d + 1) n_X9_fillsSeen Q 2 [.ref 292, .int 0, wkU] [] I L R) : wkB l G (d + 1) n_X9_fillsSeen Q 0 [.ref 292, wkU, wkU] [] I L R :=
  bb_lift (fun _ => q_iconst (n := 0) (zd (i := .iconst (0)) (n := 1) (by decide +kernel)) rfl) <|
  bb_istore_n (n := 1) (i := 1) (zd (i := .istore_n 1) (n := 1) (by decide +kernel)) rfl (by decide +kernel) (wkNl_r rfl) <|
  k
theorem w_X9_fillsSeen_2 {Q : qQ} {I : qMI} {L : qML} {R : qMR} {a1 : Int32} (kt : 19 < a1 → wkB l G (d + 1) n_X9_fillsSeen Q 70 [.ref 292, .int a1, wkU] [] I L R) (kf : ¬ 19 < a1 → wkB l G (d + 1) n_X9_fillsSeen Q 8 [.ref 292, .int a1, wkU] [] I L R) : wkB l G (d + 1) n_X9_fillsSeen Q 2 [.ref 292, .int a1, wkU] [] I L R :=
  bb_iload_n (n := 1) (i := 1) (zd (i := .iload_n 1) (n := 1) (by decide +kernel)) rfl rfl <|
  bb_lift (fun _ => q_bipush (n := 19) (zd (i := .bipush (19)) (n := 2) (by decide +kernel)) rfl) <|
  (fun lv hl => q_icmp_gt (off := 65) (tgt := 70) (zd (i := .if_icmp .gt (65)) (n := 3) (by decide +kernel)) (by decide) (fun h => (kt h) lv hl) (fun h => (kf h) lv hl))
theorem w_X9_fillsSeen_8 {Q : qQ} {I : qMI} {L : qML} {R : qMR} (hR : wkR R) {a1 : Int32} (h1 : vp_in a1 20) (k : wkB l G (d + 1) n_X9_fillsSeen Q 17 [.ref 292, .int a1, .int 0] [] (qUp I 326 a1.toNatClampNeg 0) L R) : wkB l G (d + 1) n_X9_fillsSeen Q 8 [.ref 292, .int a1, wkU] [] I L R :=
  bb_aload_n (n := 0) (i := 0) (zd (i := .aload_n 0) (n := 1) (by decide +kernel)) rfl rfl <|
  bb_getr (k := 292) (ci := 9) (j := 53) (idx := 119) (a := 326) (zd (i := .getfield 119) (n := 3) (by decide +kernel)) (by decide +kernel) (by decide +kernel) (by decide +kernel) (by decide +kernel) rfl g1181 (hR 53 (by decide)) <|
  bb_iload_n (n := 1) (i := 1) (zd (i := .iload_n 1) (n := 1) (by decide +kernel)) rfl rfl <|
  bb_lift (fun _ => q_iconst (n := 0) (zd (i := .iconst (0)) (n := 1) (by decide +kernel)) rfl) <|
  bb_lift (fun _ => q_iast (k := 326) (zd (i := .iastore) (n := 1) (by decide +kernel)) (by decide +kernel) (by decide +kernel) h1) <|
  bb_lift (fun _ => q_iconst (n := 0) (zd (i := .iconst (0)) (n := 1) (by decide +kernel)) rfl) <|
  bb_istore_n (n := 2) (i := 2) (zd (i := .istore_n 2) (n := 1) (by decide +kernel)) rfl (by decide +kernel) (wkNl_i rfl) <|
  k
theorem w_X9_fillsSeen_17 {Q : qQ} {I : qMI} {L : qML} {R : qMR} (hR : wkR R) {a1 : Int32} {a2 : Int32} (h1 : vp_in (I 292 18) 2) (kt : (I 301 (I 292 18).toNatClampNeg) ≤ a2 → wkB l G (d + 1) n_X9_fillsSeen Q 64 [.ref 292, .int a1, .int a2] [] I L R) (kf : ¬ (I 301 (I 292 18).toNatClampNeg) ≤ a2 → wkB l G (d + 1) n_X9_fillsSeen Q 30 [.ref 292, .int a1, .int a2] [] I L R) : wkB l G (d + 1) n_X9_fillsSeen Q 17 [.ref 292, .int a1, .int a2] [] I L R :=
  bb_iload_n (n := 2) (i := 2) (zd (i := .iload_n 2) (n := 1) (by decide +kernel)) rfl rfl <|
  bb_aload_n (n := 0) (i := 0) (zd (i := .aload_n 0) (n := 1) (by decide +kernel)) rfl rfl <|
  bb_getr (k := 292) (ci := 9) (j := 22) (idx := 43) (a := 301) (zd (i := .getfield 43) (n := 3) (by decide +kernel)) (by decide +kernel) (by decide +kernel) (by decide +kernel) (by decide +kernel) rfl g1150 (hR 22 (by decide)) <|
  bb_aload_n (n := 0) (i := 0) (zd (i := .aload_n 0) (n := 1) (by decide +kernel)) rfl rfl <|
  bb_geti (k := 292) (ci := 9) (j := 18) (idx := 230) (zd (i := .getfield 230) (n := 3) (by decide +kernel)) (by decide +kernel) (by decide +kernel) (by decide +kernel) (by decide +kernel) rfl g1146 <|
  bb_lift (fun _ => q_iald (k := 301) (zd (i := .iaload) (n := 1) (by decide +kernel)) (by decide +kernel) (by decide +kernel) h1) <|
  (fun lv hl => q_icmp_ge (off := 37) (tgt := 64) (zd (i := .if_icmp .ge (37)) (n := 3) (by decide +kernel)) (by decide) (fun h => (kt h) lv hl) (fun h => (kf h) lv hl))
theorem w_X9_fillsSeen_30 {Q : qQ} {I : qMI} {L : qML} {R : qMR} (hR : wkR R) {a1 : Int32} {a2 : Int32} (h1 : vp_in 96 97) {P : Int32 → qMI → qML → Prop} (hc : wkI l G d n_X9_sees [.ref 292, .int a1, .int a2, .int (I 323 (96 : Int32).toNatClampNeg)] I L R P) (kk : ∀ y I' L', P y I' L' → wkB l G (d + 1) n_X9_fillsSeen Q 43 [.ref 292, .int a1, .int a2] [.int y] I' L' R) : wkB l G (d + 1) n_X9_fillsSeen Q 30 [.ref 292, .int a1, .int a2] [] I L R :=
  bb_aload_n (n := 0) (i := 0) (zd (i := .aload_n 0) (n := 1) (by decide +kernel)) rfl rfl <|
  bb_iload_n (n := 1) (i := 1) (zd (i := .iload_n 1) (n := 1) (by decide +kernel)) rfl rfl <|
  bb_iload_n (n := 2) (i := 2) (zd (i := .iload_n 2) (n := 1) (by decide +kernel)) rfl rfl <|
  bb_aload_n (n := 0) (i := 0) (zd (i := .aload_n 0) (n := 1) (by decide +kernel)) rfl rfl <|
  bb_getr (k := 292) (ci := 9) (j := 48) (idx := 110) (a := 323) (zd (i := .getfield 110) (n := 3) (by decide +kernel)) (by decide +kernel) (by decide +kernel) (by decide +kernel) (by decide +kernel) rfl g1176 (hR 48 (by decide)) <|
  bb_lift (fun _ => q_bipush (n := 96) (zd (i := .bipush (96)) (n := 2) (by decide +kernel)) rfl) <|
  bb_lift (fun _ => q_iald (k := 323) (zd (i := .iaload) (n := 1) (by decide +kernel)) (by decide +kernel) (by decide +kernel) h1) <|
  bb_callVI (idx := 352) (k := 292) (ci := 9) (N := n_X9_sees) (As := [.int a1, .int a2, .int (I 323 (96 : Int32).toNatClampNeg)]) (st := []) (zd (i := .invokevirtual 352) (n := 3) (by decide +kernel)) to_X9_sees g1449 g1451 g68 (Nat.le_of_ble_eq_true rfl) (by decide +kernel) (by decide +kernel) (by decide +kernel) rfl rfl rfl hc kk
theorem w_X9_fillsSeen_43 {Q : qQ} {I : qMI} {L : qML} {R : qMR} {a1 : Int32} {a2 : Int32} {s0 : Int32} (kt : s0 = 0 → wkB l G (d + 1) n_X9_fillsSeen Q 58 [.ref 292, .int a1, .int a2] [] I L R) (kf : ¬ s0 = 0 → wkB l G (d + 1) n_X9_fillsSeen Q 46 [.ref 292, .int a1, .int a2] [] I L R) : wkB l G (d + 1) n_X9_fillsSeen Q 43 [.ref 292, .int a1, .int a2] [.int s0] I L R :=
  (fun lv hl => q_if_eq (off := 15) (tgt := 58) (zd (i := .ifCond .eq (15)) (n := 3) (by decide +kernel)) (by decide) (fun h => (kt h) lv hl) (fun h => (kf h) lv hl))
theorem w_X9_fillsSeen_46 {Q : qQ} {I : qMI} {L : qML} {R : qMR} (hR : wkR R) {a1 : Int32} {a2 : Int32} (h1 : vp_in a1 20) (h2 : vp_in a1 20) (k : wkB l G (d + 1) n_X9_fillsSeen Q 58 [.ref 292, .int a1, .int a2] [] (qUp I 326 a1.toNatClampNeg ((I 326 a1.toNatClampNeg) ||| (1 <<< (a2 &&& 31)))) L R) : wkB l G (d + 1) n_X9_fillsSeen Q 46 [.ref 292, .int a1, .int a2] [] I L R :=
  bb_aload_n (n := 0) (i := 0) (zd (i := .aload_n 0) (n := 1) (by decide +kernel)) rfl rfl <|
  bb_getr (k := 292) (ci := 9) (j := 53) (idx := 119) (a := 326) (zd (i := .getfield 119) (n := 3) (by decide +kernel)) (by decide +kernel) (by decide +kernel) (by decide +kernel) (by decide +kernel) rfl g1181 (hR 53 (by decide)) <|
  bb_iload_n (n := 1) (i := 1) (zd (i := .iload_n 1) (n := 1) (by decide +kernel)) rfl rfl <|
  bb_lift (fun _ => q_dup2 (zd (i := .dup2) (n := 1) (by decide +kernel)) rfl rfl) <|
  bb_lift (fun _ => q_iald (k := 326) (zd (i := .iaload) (n := 1) (by decide +kernel)) (by decide +kernel) (by decide +kernel) h1) <|
  bb_lift (fun _ => q_iconst (n := 1) (zd (i := .iconst (1)) (n := 1) (by decide +kernel)) rfl) <|
  bb_iload_n (n := 2) (i := 2) (zd (i := .iload_n 2) (n := 1) (by decide +kernel)) rfl rfl <|
  bb_lift (fun _ => q_ishl (zd (i := .ishl) (n := 1) (by decide +kernel))) <|
  bb_lift (fun _ => q_ior (zd (i := .ior) (n := 1) (by decide +kernel))) <|
  bb_lift (fun _ => q_iast (k := 326) (zd (i := .iastore) (n := 1) (by decide +kernel)) (by decide +kernel) (by decide +kernel) h2) <|
  k
theorem w_X9_fillsSeen_58 {Q : qQ} {I : qMI} {L : qML} {R : qMR} {a1 : Int32} {a2 : Int32} (k : wkB l G (d + 1) n_X9_fillsSeen Q 17 [.ref 292, .int a1, .int (a2 + 1)] [] I L R) : wkB l G (d + 1) n_X9_fillsSeen Q 58 [.ref 292, .int a1, .int a2] [] I L R :=
  bb_iinc (i := 2) (n := 1) (zd (i := .iinc 2 (1)) (n := 3) (by decide +kernel)) rfl rfl (by decide +kernel) (wkNl_i rfl) <|
  bb_lift (fun _ => q_goto (off := -44) (tgt := 17) (zd (i := .goto (-44)) (n := 3) (by decide +kernel)) (by decide)) k
theorem w_X9_fillsSeen_64 {Q : qQ} {I : qMI} {L : qML} {R : qMR} {a1 : Int32} {a2 : Int32} (k : wkB l G (d + 1) n_X9_fillsSeen Q 2 [.ref 292, .int (a1 + 1), wkU] [] I L R) : wkB l G (d + 1) n_X9_fillsSeen Q 64 [.ref 292, .int a1, .int a2] [] I L R :=
  bb_iinc (i := 1) (n := 1) (zd (i := .iinc 1 (1)) (n := 3) (by decide +kernel)) rfl rfl (by decide +kernel) (wkNl_r rfl) <|
  bb_lift (fun _ => q_goto (off := -65) (tgt := 2) (zd (i := .goto (-65)) (n := 3) (by decide +kernel)) (by decide)) (wkB_le (vs := [.ref 292, .int (a1 + 1), wkU]) (ws := [.ref 292, .int (a1 + 1), .int a2]) ⟨Or.inr rfl, Or.inr rfl, Or.inl rfl, trivial⟩ (k))
theorem w_X9_fillsSeen_70 {Q : qQ} {I : qMI} {L : qML} {R : qMR} {a1 : Int32} (hQ : Q none 336 I L R) : wkB l G (d + 1) n_X9_fillsSeen Q 70 [.ref 292, .int a1, wkU] [] I L R :=
  (fun lv hl => q_vret (zd (i := .return_) (n := 1) (by decide +kernel)) rfl (Nat.le_refl _) (Nat.le_refl _) hQ)
theorem w_X9_bits_0 {Q : qQ} {I : qMI} {L : qML} {R : qMR} {a0 : Int32} (k : wkB l G (d + 1) n_X9_bits Q 4 [.int a0, .int 0, .int 0] [] I L R) : wkB l G (d + 1) n_X9_bits Q 0 [.int a0, wkU, wkU] [] I L R :=
  bb_lift (fun _ => q_iconst (n := 0) (zd (i := .iconst (0)) (n := 1) (by decide +kernel)) rfl) <|
  bb_istore_n (n := 1) (i := 1) (zd (i := .istore_n 1) (n := 1) (by decide +kernel)) rfl (by decide +kernel) (wkNl_i rfl) <|
  bb_lift (fun _ => q_iconst (n := 0) (zd (i := .iconst (0)) (n := 1) (by decide +kernel)) rfl) <|
  bb_istore_n (n := 2) (i := 2) (zd (i := .istore_n 2) (n := 1) (by decide +kernel)) rfl (by decide +kernel) (wkNl_i rfl) <|
  k
theorem w_X9_bits_4 {Q : qQ} {I : qMI} {L : qML} {R : qMR} {a0 : Int32} {a1 : Int32} {a2 : Int32} (kt : 6 ≤ a2 → wkB l G (d + 1) n_X9_bits Q 24 [.int a0, .int a1, .int a2] [] I L R) (kf : ¬ 6 ≤ a2 → wkB l G (d + 1) n_X9_bits Q 10 [.int a0, .int a1, .int a2] [] I L R) : wkB l G (d + 1) n_X9_bits Q 4 [.int a0, .int a1, .int a2] [] I L R :=
  bb_iload_n (n := 2) (i := 2) (zd (i := .iload_n 2) (n := 1) (by decide +kernel)) rfl rfl <|
  bb_lift (fun _ => q_bipush (n := 6) (zd (i := .bipush (6)) (n := 2) (by decide +kernel)) rfl) <|
  (fun lv hl => q_icmp_ge (off := 17) (tgt := 24) (zd (i := .if_icmp .ge (17)) (n := 3) (by decide +kernel)) (by decide) (fun h => (kt h) lv hl) (fun h => (kf h) lv hl))
theorem w_X9_bits_10 {Q : qQ} {I : qMI} {L : qML} {R : qMR} {a0 : Int32} {a1 : Int32} {a2 : Int32} (k : wkB l G (d + 1) n_X9_bits Q 4 [.int a0, .int (a1 + ((a0 >>> (a2 &&& 31)) &&& 1)), .int (a2 + 1)] [] I L R) : wkB l G (d + 1) n_X9_bits Q 10 [.int a0, .int a1, .int a2] [] I L R :=
  bb_iload_n (n := 1) (i := 1) (zd (i := .iload_n 1) (n := 1) (by decide +kernel)) rfl rfl <|
  bb_iload_n (n := 0) (i := 0) (zd (i := .iload_n 0) (n := 1) (by decide +kernel)) rfl rfl <|
  bb_iload_n (n := 2) (i := 2) (zd (i := .iload_n 2) (n := 1) (by decide +kernel)) rfl rfl <|
  bb_lift (fun _ => q_ishr (zd (i := .ishr) (n := 1) (by decide +kernel))) <|
  bb_lift (fun _ => q_iconst (n := 1) (zd (i := .iconst (1)) (n := 1) (by decide +kernel)) rfl) <|
  bb_lift (fun _ => q_iand (zd (i := .iand) (n := 1) (by decide +kernel))) <|
  bb_lift (fun _ => q_iadd (zd (i := .iadd) (n := 1) (by decide +kernel))) <|
  bb_istore_n (n := 1) (i := 1) (zd (i := .istore_n 1) (n := 1) (by decide +kernel)) rfl (by decide +kernel) (wkNl_i rfl) <|
  bb_iinc (i := 2) (n := 1) (zd (i := .iinc 2 (1)) (n := 3) (by decide +kernel)) rfl rfl (by decide +kernel) (wkNl_i rfl) <|
  bb_lift (fun _ => q_goto (off := -17) (tgt := 4) (zd (i := .goto (-17)) (n := 3) (by decide +kernel)) (by decide)) k
theorem w_X9_bits_24 {Q : qQ} {I : qMI} {L : qML} {R : qMR} {a0 : Int32} {a1 : Int32} {a2 : Int32} (hQ : Q (some (.int a1)) 336 I L R) : wkB l G (d + 1) n_X9_bits Q 24 [.int a0, .int a1, .int a2] [] I L R :=
  bb_iload_n (n := 1) (i := 1) (zd (i := .iload_n 1) (n := 1) (by decide +kernel)) rfl rfl <|
  (fun lv hl => q_iret (zd (i := .ireturn) (n := 1) (by decide +kernel)) rfl rfl (Nat.le_refl _) (Nat.le_refl _) hQ)
end
