section
variable {l : Launch} {G : qG} {d : Nat}
theorem w_X9_in_0 {Q : qQ} {I : qMI} {L : qML} {R : qMR} {a0 : Int32} {a1 : Int32} {a2 : Int32} (kt : a0 < a1 → wkB l G (d + 1) n_X9_in Q 14 [.int a0, .int a1, .int a2] [] I L R) (kf : ¬ a0 < a1 → wkB l G (d + 1) n_X9_in Q 5 [.int a0, .int a1, .int a2] [] I L R) : wkB l G (d + 1) n_X9_in Q 0 [.int a0, .int a1, .int a2] [] I L R :=
  bb_iload_n (n := 0) (i := 0) (zd (i := .iload_n 0) (n := 1) (by decide +kernel)) rfl rfl <|
  bb_iload_n (n := 1) (i := 1) (zd (i := .iload_n 1) (n := 1) (by decide +kernel)) rfl rfl <|
  (fun lv hl => q_icmp_lt (off := 12) (tgt := 14) (zd (i := .if_icmp .lt (12)) (n := 3) (by decide +kernel)) (by decide) (fun h => (kt h) lv hl) (fun h => (kf h) lv hl))
theorem w_X9_in_5 {Q : qQ} {I : qMI} {L : qML} {R : qMR} {a0 : Int32} {a1 : Int32} {a2 : Int32} (kt : a2 < a0 → wkB l G (d + 1) n_X9_in Q 14 [.int a0, .int a1, .int a2] [] I L R) (kf : ¬ a2 < a0 → wkB l G (d + 1) n_X9_in Q 10 [.int a0, .int a1, .int a2] [] I L R) : wkB l G (d + 1) n_X9_in Q 5 [.int a0, .int a1, .int a2] [] I L R :=
  bb_iload_n (n := 0) (i := 0) (zd (i := .iload_n 0) (n := 1) (by decide +kernel)) rfl rfl <|
  bb_iload_n (n := 2) (i := 2) (zd (i := .iload_n 2) (n := 1) (by decide +kernel)) rfl rfl <|
  (fun lv hl => q_icmp_gt (off := 7) (tgt := 14) (zd (i := .if_icmp .gt (7)) (n := 3) (by decide +kernel)) (by decide) (fun h => (kt h) lv hl) (fun h => (kf h) lv hl))
theorem w_X9_in_10 {Q : qQ} {I : qMI} {L : qML} {R : qMR} {a0 : Int32} {a1 : Int32} {a2 : Int32} (k : wkB l G (d + 1) n_X9_in Q 15 [.int a0, .int a1, .int a2] [.int 1] I L R) : wkB l G (d + 1) n_X9_in Q 10 [.int a0, .int a1, .int a2] [] I L R :=
  bb_lift (fun _ => q_iconst (n := 1) (zd (i := .iconst (1)) (n := 1) (by decide +kernel)) rfl) <|
  bb_lift (fun _ => q_goto (off := 4) (tgt := 15) (zd (i := .goto (4)) (n := 3) (by decide +kernel)) (by decide)) k
theorem w_X9_in_14 {Q : qQ} {I : qMI} {L : qML} {R : qMR} {a0 : Int32} {a1 : Int32} {a2 : Int32} (k : wkB l G (d + 1) n_X9_in Q 15 [.int a0, .int a1, .int a2] [.int 0] I L R) : wkB l G (d + 1) n_X9_in Q 14 [.int a0, .int a1, .int a2] [] I L R :=
  bb_lift (fun _ => q_iconst (n := 0) (zd (i := .iconst (0)) (n := 1) (by decide +kernel)) rfl) <|
  k
theorem w_X9_in_15 {Q : qQ} {I : qMI} {L : qML} {R : qMR} {a0 : Int32} {a1 : Int32} {a2 : Int32} {s0 : Int32} (hQ : Q (some (.int s0)) 336 I L R) (h1 : s0 = 0 ∨ s0 = 1) : wkB l G (d + 1) n_X9_in Q 15 [.int a0, .int a1, .int a2] [.int s0] I L R :=
  (fun lv hl => q_iret (zd (i := .ireturn) (n := 1) (by decide +kernel)) rfl (by rcases h1 with e | e <;> rw [e] <;> rfl) (Nat.le_refl _) (Nat.le_refl _) hQ)
theorem w_X9_held_0 {Q : qQ} {I : qMI} {L : qML} {R : qMR} {a0 : Int32} {a1 : Int32} {a2 : Int32} (kt : a1 ≤ a0 → wkB l G (d + 1) n_X9_held Q 9 [.int a0, .int a1, .int a2] [] I L R) (kf : ¬ a1 ≤ a0 → wkB l G (d + 1) n_X9_held Q 5 [.int a0, .int a1, .int a2] [] I L R) : wkB l G (d + 1) n_X9_held Q 0 [.int a0, .int a1, .int a2] [] I L R :=
  bb_iload_n (n := 0) (i := 0) (zd (i := .iload_n 0) (n := 1) (by decide +kernel)) rfl rfl <|
  bb_iload_n (n := 1) (i := 1) (zd (i := .iload_n 1) (n := 1) (by decide +kernel)) rfl rfl <|
  (fun lv hl => q_icmp_ge (off := 7) (tgt := 9) (zd (i := .if_icmp .ge (7)) (n := 3) (by decide +kernel)) (by decide) (fun h => (kt h) lv hl) (fun h => (kf h) lv hl))
theorem w_X9_held_5 {Q : qQ} {I : qMI} {L : qML} {R : qMR} {a0 : Int32} {a1 : Int32} {a2 : Int32} (k : wkB l G (d + 1) n_X9_held Q 19 [.int a0, .int a1, .int a2] [.int a1] I L R) : wkB l G (d + 1) n_X9_held Q 5 [.int a0, .int a1, .int a2] [] I L R :=
  bb_iload_n (n := 1) (i := 1) (zd (i := .iload_n 1) (n := 1) (by decide +kernel)) rfl rfl <|
  bb_lift (fun _ => q_goto (off := 13) (tgt := 19) (zd (i := .goto (13)) (n := 3) (by decide +kernel)) (by decide)) k
theorem w_X9_held_9 {Q : qQ} {I : qMI} {L : qML} {R : qMR} {a0 : Int32} {a1 : Int32} {a2 : Int32} (kt : a0 ≤ a2 → wkB l G (d + 1) n_X9_held Q 18 [.int a0, .int a1, .int a2] [] I L R) (kf : ¬ a0 ≤ a2 → wkB l G (d + 1) n_X9_held Q 14 [.int a0, .int a1, .int a2] [] I L R) : wkB l G (d + 1) n_X9_held Q 9 [.int a0, .int a1, .int a2] [] I L R :=
  bb_iload_n (n := 0) (i := 0) (zd (i := .iload_n 0) (n := 1) (by decide +kernel)) rfl rfl <|
  bb_iload_n (n := 2) (i := 2) (zd (i := .iload_n 2) (n := 1) (by decide +kernel)) rfl rfl <|
  (fun lv hl => q_icmp_le (off := 7) (tgt := 18) (zd (i := .if_icmp .le (7)) (n := 3) (by decide +kernel)) (by decide) (fun h => (kt h) lv hl) (fun h => (kf h) lv hl))
theorem w_X9_held_14 {Q : qQ} {I : qMI} {L : qML} {R : qMR} {a0 : Int32} {a1 : Int32} {a2 : Int32} (k : wkB l G (d + 1) n_X9_held Q 19 [.int a0, .int a1, .int a2] [.int a2] I L R) : wkB l G (d + 1) n_X9_held Q 14 [.int a0, .int a1, .int a2] [] I L R :=
  bb_iload_n (n := 2) (i := 2) (zd (i := .iload_n 2) (n := 1) (by decide +kernel)) rfl rfl <|
  bb_lift (fun _ => q_goto (off := 4) (tgt := 19) (zd (i := .goto (4)) (n := 3) (by decide +kernel)) (by decide)) k
theorem w_X9_held_18 {Q : qQ} {I : qMI} {L : qML} {R : qMR} {a0 : Int32} {a1 : Int32} {a2 : Int32} (k : wkB l G (d + 1) n_X9_held Q 19 [.int a0, .int a1, .int a2] [.int a0] I L R) : wkB l G (d + 1) n_X9_held Q 18 [.int a0, .int a1, .int a2] [] I L R :=
  bb_iload_n (n := 0) (i := 0) (zd (i := .iload_n 0) (n := 1) (by decide +kernel)) rfl rfl <|
  k
theorem w_X9_held_19 {Q : qQ} {I : qMI} {L : qML} {R : qMR} {a0 : Int32} {a1 : Int32} {a2 : Int32} {s0 : Int32} (hQ : Q (some (.int s0)) 336 I L R) : wkB l G (d + 1) n_X9_held Q 19 [.int a0, .int a1, .int a2] [.int s0] I L R :=
  (fun lv hl => q_iret (zd (i := .ireturn) (n := 1) (by decide +kernel)) rfl rfl (Nat.le_refl _) (Nat.le_refl _) hQ)
theorem w_X9_off_0 {Q : qQ} {I : qMI} {L : qML} {R : qMR} {a0 : Int32} {a1 : Int32} (kt : a1 ≤ a0 → wkB l G (d + 1) n_X9_off Q 11 [.int a0, .int a1] [] I L R) (kf : ¬ a1 ≤ a0 → wkB l G (d + 1) n_X9_off Q 5 [.int a0, .int a1] [] I L R) : wkB l G (d + 1) n_X9_off Q 0 [.int a0, .int a1] [] I L R :=
  bb_iload_n (n := 0) (i := 0) (zd (i := .iload_n 0) (n := 1) (by decide +kernel)) rfl rfl <|
  bb_iload_n (n := 1) (i := 1) (zd (i := .iload_n 1) (n := 1) (by decide +kernel)) rfl rfl <|
  (fun lv hl => q_icmp_ge (off := 9) (tgt := 11) (zd (i := .if_icmp .ge (9)) (n := 3) (by decide +kernel)) (by decide) (fun h => (kt h) lv hl) (fun h => (kf h) lv hl))
theorem w_X9_off_5 {Q : qQ} {I : qMI} {L : qML} {R : qMR} {a0 : Int32} {a1 : Int32} (k : wkB l G (d + 1) n_X9_off Q 14 [.int a0, .int a1] [.int (a1 - a0)] I L R) : wkB l G (d + 1) n_X9_off Q 5 [.int a0, .int a1] [] I L R :=
  bb_iload_n (n := 1) (i := 1) (zd (i := .iload_n 1) (n := 1) (by decide +kernel)) rfl rfl <|
  bb_iload_n (n := 0) (i := 0) (zd (i := .iload_n 0) (n := 1) (by decide +kernel)) rfl rfl <|
  bb_lift (fun _ => q_isub (zd (i := .isub) (n := 1) (by decide +kernel))) <|
  bb_lift (fun _ => q_goto (off := 6) (tgt := 14) (zd (i := .goto (6)) (n := 3) (by decide +kernel)) (by decide)) k
theorem w_X9_off_11 {Q : qQ} {I : qMI} {L : qML} {R : qMR} {a0 : Int32} {a1 : Int32} (k : wkB l G (d + 1) n_X9_off Q 14 [.int a0, .int a1] [.int (a0 - a1)] I L R) : wkB l G (d + 1) n_X9_off Q 11 [.int a0, .int a1] [] I L R :=
  bb_iload_n (n := 0) (i := 0) (zd (i := .iload_n 0) (n := 1) (by decide +kernel)) rfl rfl <|
  bb_iload_n (n := 1) (i := 1) (zd (i := .iload_n 1) (n := 1) (by decide +kernel)) rfl rfl <|
  bb_lift (fun _ => q_isub (zd (i := .isub) (n := 1) (by decide +kernel))) <|
  k
theorem w_X9_off_14 {Q : qQ} {I : qMI} {L : qML} {R : qMR} {a0 : Int32} {a1 : Int32} {s0 : Int32} (hQ : Q (some (.int s0)) 336 I L R) : wkB l G (d + 1) n_X9_off Q 14 [.int a0, .int a1] [.int s0] I L R :=
  (fun lv hl => q_iret (zd (i := .ireturn) (n := 1) (by decide +kernel)) rfl rfl (Nat.le_refl _) (Nat.le_refl _) hQ)
theorem w_X9_isThing_0 {Q : qQ} {I : qMI} {L : qML} {R : qMR} (hR : wkR R) {a1 : Int32} (h1 : vp_in (I 292 18) 2) {P : Int32 → qMI → qML → Prop} (hc : wkI l G d n_X9_in [.int a1, .int 0, .int ((I 301 (I 292 18).toNatClampNeg) - 1)] I L R P) (kk : ∀ y I' L', P y I' L' → wkB l G (d + 1) n_X9_isThing Q 16 [.ref 292, .int a1] [.int y] I' L' R) : wkB l G (d + 1) n_X9_isThing Q 0 [.ref 292, .int a1] [] I L R :=
  bb_iload_n (n := 1) (i := 1) (zd (i := .iload_n 1) (n := 1) (by decide +kernel)) rfl rfl <|
  bb_lift (fun _ => q_iconst (n := 0) (zd (i := .iconst (0)) (n := 1) (by decide +kernel)) rfl) <|
  bb_aload_n (n := 0) (i := 0) (zd (i := .aload_n 0) (n := 1) (by decide +kernel)) rfl rfl <|
  bb_getr (k := 292) (ci := 9) (j := 22) (idx := 43) (a := 301) (zd (i := .getfield 43) (n := 3) (by decide +kernel)) (by decide +kernel) (by decide +kernel) (by decide +kernel) (by decide +kernel) rfl g1150 (hR 22 (by decide)) <|
  bb_aload_n (n := 0) (i := 0) (zd (i := .aload_n 0) (n := 1) (by decide +kernel)) rfl rfl <|
  bb_geti (k := 292) (ci := 9) (j := 18) (idx := 230) (zd (i := .getfield 230) (n := 3) (by decide +kernel)) (by decide +kernel) (by decide +kernel) (by decide +kernel) (by decide +kernel) rfl g1146 <|
  bb_lift (fun _ => q_iald (k := 301) (zd (i := .iaload) (n := 1) (by decide +kernel)) (by decide +kernel) (by decide +kernel) h1) <|
  bb_lift (fun _ => q_iconst (n := 1) (zd (i := .iconst (1)) (n := 1) (by decide +kernel)) rfl) <|
  bb_lift (fun _ => q_isub (zd (i := .isub) (n := 1) (by decide +kernel))) <|
  bb_callSI (idx := 304) (N := n_X9_in) (As := [.int a1, .int 0, .int ((I 301 (I 292 18).toNatClampNeg) - 1)]) (st := []) (zd (i := .invokestatic 304) (n := 3) (by decide +kernel)) to_X9_in g1442 g1443 (Nat.le_of_ble_eq_true rfl) rfl rfl hc kk
theorem w_X9_isThing_16 {Q : qQ} {I : qMI} {L : qML} {R : qMR} {a1 : Int32} {s0 : Int32} (hQ : Q (some (.int s0)) 336 I L R) (h1 : s0 = 0 ∨ s0 = 1) : wkB l G (d + 1) n_X9_isThing Q 16 [.ref 292, .int a1] [.int s0] I L R :=
  (fun lv hl => q_iret (zd (i := .ireturn) (n := 1) (by decide +kernel)) rfl (by rcases h1 with e | e <;> rw [e] <;> rfl) (Nat.le_refl _) (Nat.le_refl _) hQ)
theorem w_X9_isSeat_0 {Q : qQ} {I : qMI} {L : qML} {R : qMR} (hR : wkR R) {a1 : Int32} (h1 : vp_in (I 292 18) 2) {P : Int32 → qMI → qML → Prop} (hc : wkI l G d n_X9_in [.int a1, .int 0, .int ((I 304 (I 292 18).toNatClampNeg) - 1)] I L R P) (kk : ∀ y I' L', P y I' L' → wkB l G (d + 1) n_X9_isSeat Q 16 [.ref 292, .int a1] [.int y] I' L' R) : wkB l G (d + 1) n_X9_isSeat Q 0 [.ref 292, .int a1] [] I L R :=
  bb_iload_n (n := 1) (i := 1) (zd (i := .iload_n 1) (n := 1) (by decide +kernel)) rfl rfl <|
  bb_lift (fun _ => q_iconst (n := 0) (zd (i := .iconst (0)) (n := 1) (by decide +kernel)) rfl) <|
  bb_aload_n (n := 0) (i := 0) (zd (i := .aload_n 0) (n := 1) (by decide +kernel)) rfl rfl <|
  bb_getr (k := 292) (ci := 9) (j := 25) (idx := 52) (a := 304) (zd (i := .getfield 52) (n := 3) (by decide +kernel)) (by decide +kernel) (by decide +kernel) (by decide +kernel) (by decide +kernel) rfl g1153 (hR 25 (by decide)) <|
  bb_aload_n (n := 0) (i := 0) (zd (i := .aload_n 0) (n := 1) (by decide +kernel)) rfl rfl <|
  bb_geti (k := 292) (ci := 9) (j := 18) (idx := 230) (zd (i := .getfield 230) (n := 3) (by decide +kernel)) (by decide +kernel) (by decide +kernel) (by decide +kernel) (by decide +kernel) rfl g1146 <|
  bb_lift (fun _ => q_iald (k := 304) (zd (i := .iaload) (n := 1) (by decide +kernel)) (by decide +kernel) (by decide +kernel) h1) <|
  bb_lift (fun _ => q_iconst (n := 1) (zd (i := .iconst (1)) (n := 1) (by decide +kernel)) rfl) <|
  bb_lift (fun _ => q_isub (zd (i := .isub) (n := 1) (by decide +kernel))) <|
  bb_callSI (idx := 304) (N := n_X9_in) (As := [.int a1, .int 0, .int ((I 304 (I 292 18).toNatClampNeg) - 1)]) (st := []) (zd (i := .invokestatic 304) (n := 3) (by decide +kernel)) to_X9_in g1442 g1443 (Nat.le_of_ble_eq_true rfl) rfl rfl hc kk
theorem w_X9_isSeat_16 {Q : qQ} {I : qMI} {L : qML} {R : qMR} {a1 : Int32} {s0 : Int32} (hQ : Q (some (.int s0)) 336 I L R) (h1 : s0 = 0 ∨ s0 = 1) : wkB l G (d + 1) n_X9_isSeat Q 16 [.ref 292, .int a1] [.int s0] I L R :=
  (fun lv hl => q_iret (zd (i := .ireturn) (n := 1) (by decide +kernel)) rfl (by rcases h1 with e | e <;> rw [e] <;> rfl) (Nat.le_refl _) (Nat.le_refl _) hQ)
theorem w_X9_isX_0 {Q : qQ} {I : qMI} {L : qML} {R : qMR} {a0 : Int32} {P : Int32 → qMI → qML → Prop} (hc : wkI l G d n_X9_in [.int a0, .int 0, .int 19] I L R P) (kk : ∀ y I' L', P y I' L' → wkB l G (d + 1) n_X9_isX Q 7 [.int a0] [.int y] I' L' R) : wkB l G (d + 1) n_X9_isX Q 0 [.int a0] [] I L R :=
  bb_iload_n (n := 0) (i := 0) (zd (i := .iload_n 0) (n := 1) (by decide +kernel)) rfl rfl <|
  bb_lift (fun _ => q_iconst (n := 0) (zd (i := .iconst (0)) (n := 1) (by decide +kernel)) rfl) <|
  bb_lift (fun _ => q_bipush (n := 19) (zd (i := .bipush (19)) (n := 2) (by decide +kernel)) rfl) <|
  bb_callSI (idx := 304) (N := n_X9_in) (As := [.int a0, .int 0, .int 19]) (st := []) (zd (i := .invokestatic 304) (n := 3) (by decide +kernel)) to_X9_in g1442 g1443 (Nat.le_of_ble_eq_true rfl) rfl rfl hc kk
theorem w_X9_isX_7 {Q : qQ} {I : qMI} {L : qML} {R : qMR} {a0 : Int32} {s0 : Int32} (hQ : Q (some (.int s0)) 336 I L R) (h1 : s0 = 0 ∨ s0 = 1) : wkB l G (d + 1) n_X9_isX Q 7 [.int a0] [.int s0] I L R :=
  (fun lv hl => q_iret (zd (i := .ireturn) (n := 1) (by decide +kernel)) rfl (by rcases h1 with e | e <;> rw [e] <;> rfl) (Nat.le_refl _) (Nat.le_refl _) hQ)
theorem w_X9_isLong_0 {Q : qQ} {I : qMI} {L : qML} {R : qMR} {a0 : Int32} {P : Int32 → qMI → qML → Prop} (hc : wkI l G d n_X9_in [.int a0, .int 0, .int 48] I L R P) (kk : ∀ y I' L', P y I' L' → wkB l G (d + 1) n_X9_isLong Q 7 [.int a0] [.int y] I' L' R) : wkB l G (d + 1) n_X9_isLong Q 0 [.int a0] [] I L R :=
  bb_iload_n (n := 0) (i := 0) (zd (i := .iload_n 0) (n := 1) (by decide +kernel)) rfl rfl <|
  bb_lift (fun _ => q_iconst (n := 0) (zd (i := .iconst (0)) (n := 1) (by decide +kernel)) rfl) <|
  bb_lift (fun _ => q_bipush (n := 48) (zd (i := .bipush (48)) (n := 2) (by decide +kernel)) rfl) <|
  bb_callSI (idx := 304) (N := n_X9_in) (As := [.int a0, .int 0, .int 48]) (st := []) (zd (i := .invokestatic 304) (n := 3) (by decide +kernel)) to_X9_in g1442 g1443 (Nat.le_of_ble_eq_true rfl) rfl rfl hc kk
theorem w_X9_isLong_7 {Q : qQ} {I : qMI} {L : qML} {R : qMR} {a0 : Int32} {s0 : Int32} (hQ : Q (some (.int s0)) 336 I L R) (h1 : s0 = 0 ∨ s0 = 1) : wkB l G (d + 1) n_X9_isLong Q 7 [.int a0] [.int s0] I L R :=
  (fun lv hl => q_iret (zd (i := .ireturn) (n := 1) (by decide +kernel)) rfl (by rcases h1 with e | e <;> rw [e] <;> rfl) (Nat.le_refl _) (Nat.le_refl _) hQ)
theorem w_X9_copies_0 {Q : qQ} {I : qMI} {L : qML} {R : qMR}  (k : wkB l G (d + 1) n_X9_copies Q 2 [.ref 292, .int 0] [] I L R) : wkB l G (d + 1) n_X9_copies Q 0 [.ref 292, wkU] [] I L R :=
  bb_lift (fun _ => q_iconst (n := 0) (zd (i := .iconst (0)) (n := 1) (by decide +kernel)) rfl) <|
  bb_istore_n (n := 1) (i := 1) (zd (i := .istore_n 1) (n := 1) (by decide +kernel)) rfl (by decide +kernel) (wkNl_r rfl) <|
  k
theorem w_X9_copies_2 {Q : qQ} {I : qMI} {L : qML} {R : qMR} {a1 : Int32} (kt : 97 ≤ a1 → wkB l G (d + 1) n_X9_copies Q 26 [.ref 292, .int a1] [] I L R) (kf : ¬ 97 ≤ a1 → wkB l G (d + 1) n_X9_copies Q 8 [.ref 292, .int a1] [] I L R) : wkB l G (d + 1) n_X9_copies Q 2 [.ref 292, .int a1] [] I L R :=
  bb_iload_n (n := 1) (i := 1) (zd (i := .iload_n 1) (n := 1) (by decide +kernel)) rfl rfl <|
  bb_lift (fun _ => q_bipush (n := 97) (zd (i := .bipush (97)) (n := 2) (by decide +kernel)) rfl) <|
  (fun lv hl => q_icmp_ge (off := 21) (tgt := 26) (zd (i := .if_icmp .ge (21)) (n := 3) (by decide +kernel)) (by decide) (fun h => (kt h) lv hl) (fun h => (kf h) lv hl))
theorem w_X9_copies_8 {Q : qQ} {I : qMI} {L : qML} {R : qMR} (hR : wkR R) {a1 : Int32} (h1 : vp_in a1 97) (h2 : vp_in a1 97) (k : wkB l G (d + 1) n_X9_copies Q 2 [.ref 292, .int (a1 + 1)] [] (qUp I 324 a1.toNatClampNeg (I 323 a1.toNatClampNeg)) L R) : wkB l G (d + 1) n_X9_copies Q 8 [.ref 292, .int a1] [] I L R :=
  bb_aload_n (n := 0) (i := 0) (zd (i := .aload_n 0) (n := 1) (by decide +kernel)) rfl rfl <|
  bb_getr (k := 292) (ci := 9) (j := 49) (idx := 113) (a := 324) (zd (i := .getfield 113) (n := 3) (by decide +kernel)) (by decide +kernel) (by decide +kernel) (by decide +kernel) (by decide +kernel) rfl g1177 (hR 49 (by decide)) <|
  bb_iload_n (n := 1) (i := 1) (zd (i := .iload_n 1) (n := 1) (by decide +kernel)) rfl rfl <|
  bb_aload_n (n := 0) (i := 0) (zd (i := .aload_n 0) (n := 1) (by decide +kernel)) rfl rfl <|
  bb_getr (k := 292) (ci := 9) (j := 48) (idx := 110) (a := 323) (zd (i := .getfield 110) (n := 3) (by decide +kernel)) (by decide +kernel) (by decide +kernel) (by decide +kernel) (by decide +kernel) rfl g1176 (hR 48 (by decide)) <|
  bb_iload_n (n := 1) (i := 1) (zd (i := .iload_n 1) (n := 1) (by decide +kernel)) rfl rfl <|
  bb_lift (fun _ => q_iald (k := 323) (zd (i := .iaload) (n := 1) (by decide +kernel)) (by decide +kernel) (by decide +kernel) h1) <|
  bb_lift (fun _ => q_iast (k := 324) (zd (i := .iastore) (n := 1) (by decide +kernel)) (by decide +kernel) (by decide +kernel) h2) <|
  bb_iinc (i := 1) (n := 1) (zd (i := .iinc 1 (1)) (n := 3) (by decide +kernel)) rfl rfl (by decide +kernel) (wkNl_r rfl) <|
  bb_lift (fun _ => q_goto (off := -21) (tgt := 2) (zd (i := .goto (-21)) (n := 3) (by decide +kernel)) (by decide)) k
theorem w_X9_copies_26 {Q : qQ} {I : qMI} {L : qML} {R : qMR} (hR : wkR R) {a1 : Int32} (h1 : vp_in (I 292 18) 2) (hQ : Q none 336 (qUp I 292 50 (I 310 (I 292 18).toNatClampNeg)) L R) : wkB l G (d + 1) n_X9_copies Q 26 [.ref 292, .int a1] [] I L R :=
  bb_aload_n (n := 0) (i := 0) (zd (i := .aload_n 0) (n := 1) (by decide +kernel)) rfl rfl <|
  bb_aload_n (n := 0) (i := 0) (zd (i := .aload_n 0) (n := 1) (by decide +kernel)) rfl rfl <|
  bb_getr (k := 292) (ci := 9) (j := 31) (idx := 70) (a := 310) (zd (i := .getfield 70) (n := 3) (by decide +kernel)) (by decide +kernel) (by decide +kernel) (by decide +kernel) (by decide +kernel) rfl g1159 (hR 31 (by decide)) <|
  bb_aload_n (n := 0) (i := 0) (zd (i := .aload_n 0) (n := 1) (by decide +kernel)) rfl rfl <|
  bb_geti (k := 292) (ci := 9) (j := 18) (idx := 230) (zd (i := .getfield 230) (n := 3) (by decide +kernel)) (by decide +kernel) (by decide +kernel) (by decide +kernel) (by decide +kernel) rfl g1146 <|
  bb_lift (fun _ => q_iald (k := 310) (zd (i := .iaload) (n := 1) (by decide +kernel)) (by decide +kernel) (by decide +kernel) h1) <|
  bb_puti (k := 292) (ci := 9) (j := 50) (idx := 308) (zd (i := .putfield 308) (n := 3) (by decide +kernel)) (by decide +kernel) (by decide +kernel) (by decide +kernel) (by decide +kernel) g1178 rfl rfl <|
  (fun lv hl => q_vret (zd (i := .return_) (n := 1) (by decide +kernel)) rfl (Nat.le_refl _) (Nat.le_refl _) hQ)
theorem w_X9_mixed_0 {Q : qQ} {I : qMI} {L : qML} {R : qMR} {a0 : Int32} {a1 : Int32} (hQ : Q (some (.int ((((a0 ^^^ a1) * 1103515245) + 12345) ^^^ (((((a0 ^^^ a1) * 1103515245) + 12345).toUInt32 >>> ((15 : Int32).toUInt32 &&& Int32.toUInt32 31)).toInt32)))) 336 I L R) : wkB l G (d + 1) n_X9_mixed Q 0 [.int a0, .int a1, wkU] [] I L R :=
  bb_iload_n (n := 0) (i := 0) (zd (i := .iload_n 0) (n := 1) (by decide +kernel)) rfl rfl <|
  bb_iload_n (n := 1) (i := 1) (zd (i := .iload_n 1) (n := 1) (by decide +kernel)) rfl rfl <|
  bb_lift (fun _ => q_ixor (zd (i := .ixor) (n := 1) (by decide +kernel))) <|
  bb_lift (fun _ => q_ldcw (n := 311) (zd (i := .ldc_w 311) (n := 3) (by decide +kernel)) g1561) <|
  bb_lift (fun _ => q_imul (zd (i := .imul) (n := 1) (by decide +kernel))) <|
  bb_lift (fun _ => q_sipush (n := 12345) (zd (i := .sipush (12345)) (n := 3) (by decide +kernel)) rfl) <|
  bb_lift (fun _ => q_iadd (zd (i := .iadd) (n := 1) (by decide +kernel))) <|
  bb_istore_n (n := 2) (i := 2) (zd (i := .istore_n 2) (n := 1) (by decide +kernel)) rfl (by decide +kernel) (wkNl_i rfl) <|
  bb_iload_n (n := 2) (i := 2) (zd (i := .iload_n 2) (n := 1) (by decide +kernel)) rfl rfl <|
  bb_iload_n (n := 2) (i := 2) (zd (i := .iload_n 2) (n := 1) (by decide +kernel)) rfl rfl <|
  bb_lift (fun _ => q_bipush (n := 15) (zd (i := .bipush (15)) (n := 2) (by decide +kernel)) rfl) <|
  bb_lift (fun _ => q_iushr (zd (i := .iushr) (n := 1) (by decide +kernel))) <|
  bb_lift (fun _ => q_ixor (zd (i := .ixor) (n := 1) (by decide +kernel))) <|
  (fun lv hl => q_iret (zd (i := .ireturn) (n := 1) (by decide +kernel)) rfl rfl (Nat.le_refl _) (Nat.le_refl _) hQ)
theorem w_X9_isWind_0 {Q : qQ} {I : qMI} {L : qML} {R : qMR}  {P : Int32 → qMI → qML → Prop} (hc : wkI l G d n_X9_mixed [.int (I 292 50), .int 119] I L R P) (kk : ∀ y I' L', P y I' L' → wkB l G (d + 1) n_X9_isWind Q 9 [.ref 292] [.int y] I' L' R) : wkB l G (d + 1) n_X9_isWind Q 0 [.ref 292] [] I L R :=
  bb_aload_n (n := 0) (i := 0) (zd (i := .aload_n 0) (n := 1) (by decide +kernel)) rfl rfl <|
  bb_geti (k := 292) (ci := 9) (j := 50) (idx := 308) (zd (i := .getfield 308) (n := 3) (by decide +kernel)) (by decide +kernel) (by decide +kernel) (by decide +kernel) (by decide +kernel) rfl g1178 <|
  bb_lift (fun _ => q_bipush (n := 119) (zd (i := .bipush (119)) (n := 2) (by decide +kernel)) rfl) <|
  bb_callSI (idx := 312) (N := n_X9_mixed) (As := [.int (I 292 50), .int 119]) (st := []) (zd (i := .invokestatic 312) (n := 3) (by decide +kernel)) to_X9_mixed g1558 g1559 (Nat.le_of_ble_eq_true rfl) rfl rfl hc kk
theorem w_X9_isWind_9 {Q : qQ} {I : qMI} {L : qML} {R : qMR} (hR : wkR R) {s0 : Int32} (h1 : vp_in 96 97) {P : Int32 → qMI → qML → Prop} (hc : wkI l G d n_X9_mixed [.int s0, .int (4 * (I 324 (96 : Int32).toNatClampNeg))] I L R P) (kk : ∀ y I' L', P y I' L' → wkB l G (d + 1) n_X9_isWind Q 21 [.ref 292] [.int y] I' L' R) : wkB l G (d + 1) n_X9_isWind Q 9 [.ref 292] [.int s0] I L R :=
  bb_lift (fun _ => q_iconst (n := 4) (zd (i := .iconst (4)) (n := 1) (by decide +kernel)) rfl) <|
  bb_aload_n (n := 0) (i := 0) (zd (i := .aload_n 0) (n := 1) (by decide +kernel)) rfl rfl <|
  bb_getr (k := 292) (ci := 9) (j := 49) (idx := 113) (a := 324) (zd (i := .getfield 113) (n := 3) (by decide +kernel)) (by decide +kernel) (by decide +kernel) (by decide +kernel) (by decide +kernel) rfl g1177 (hR 49 (by decide)) <|
  bb_lift (fun _ => q_bipush (n := 96) (zd (i := .bipush (96)) (n := 2) (by decide +kernel)) rfl) <|
  bb_lift (fun _ => q_iald (k := 324) (zd (i := .iaload) (n := 1) (by decide +kernel)) (by decide +kernel) (by decide +kernel) h1) <|
  bb_lift (fun _ => q_imul (zd (i := .imul) (n := 1) (by decide +kernel))) <|
  bb_callSI (idx := 312) (N := n_X9_mixed) (As := [.int s0, .int (4 * (I 324 (96 : Int32).toNatClampNeg))]) (st := []) (zd (i := .invokestatic 312) (n := 3) (by decide +kernel)) to_X9_mixed g1558 g1559 (Nat.le_of_ble_eq_true rfl) rfl rfl hc kk
theorem w_X9_isWind_21 {Q : qQ} {I : qMI} {L : qML} {R : qMR} (hR : wkR R) {s0 : Int32} (h1 : vp_in (I 292 18) 2) (kt : (I 308 (I 292 18).toNatClampNeg) ≤ (((s0.toUInt32 >>> ((1 : Int32).toUInt32 &&& Int32.toUInt32 31)).toInt32) - ((s0.toUInt32 >>> ((1 : Int32).toUInt32 &&& Int32.toUInt32 31)).toInt32) / 100 * 100) → wkB l G (d + 1) n_X9_isWind Q 42 [.ref 292] [] I L R) (kf : ¬ (I 308 (I 292 18).toNatClampNeg) ≤ (((s0.toUInt32 >>> ((1 : Int32).toUInt32 &&& Int32.toUInt32 31)).toInt32) - ((s0.toUInt32 >>> ((1 : Int32).toUInt32 &&& Int32.toUInt32 31)).toInt32) / 100 * 100) → wkB l G (d + 1) n_X9_isWind Q 38 [.ref 292] [] I L R) : wkB l G (d + 1) n_X9_isWind Q 21 [.ref 292] [.int s0] I L R :=
  bb_lift (fun _ => q_iconst (n := 1) (zd (i := .iconst (1)) (n := 1) (by decide +kernel)) rfl) <|
  bb_lift (fun _ => q_iushr (zd (i := .iushr) (n := 1) (by decide +kernel))) <|
  bb_lift (fun _ => q_bipush (n := 100) (zd (i := .bipush (100)) (n := 2) (by decide +kernel)) rfl) <|
  bb_lift (fun _ => q_irem (zd (i := .irem) (n := 1) (by decide +kernel)) (by decide)) <|
  bb_aload_n (n := 0) (i := 0) (zd (i := .aload_n 0) (n := 1) (by decide +kernel)) rfl rfl <|
  bb_getr (k := 292) (ci := 9) (j := 29) (idx := 64) (a := 308) (zd (i := .getfield 64) (n := 3) (by decide +kernel)) (by decide +kernel) (by decide +kernel) (by decide +kernel) (by decide +kernel) rfl g1157 (hR 29 (by decide)) <|
  bb_aload_n (n := 0) (i := 0) (zd (i := .aload_n 0) (n := 1) (by decide +kernel)) rfl rfl <|
  bb_geti (k := 292) (ci := 9) (j := 18) (idx := 230) (zd (i := .getfield 230) (n := 3) (by decide +kernel)) (by decide +kernel) (by decide +kernel) (by decide +kernel) (by decide +kernel) rfl g1146 <|
  bb_lift (fun _ => q_iald (k := 308) (zd (i := .iaload) (n := 1) (by decide +kernel)) (by decide +kernel) (by decide +kernel) h1) <|
  (fun lv hl => q_icmp_ge (off := 7) (tgt := 42) (zd (i := .if_icmp .ge (7)) (n := 3) (by decide +kernel)) (by decide) (fun h => (kt h) lv hl) (fun h => (kf h) lv hl))
theorem w_X9_isWind_38 {Q : qQ} {I : qMI} {L : qML} {R : qMR}  (k : wkB l G (d + 1) n_X9_isWind Q 43 [.ref 292] [.int 1] I L R) : wkB l G (d + 1) n_X9_isWind Q 38 [.ref 292] [] I L R :=
  bb_lift (fun _ => q_iconst (n := 1) (zd (i := .iconst (1)) (n := 1) (by decide +kernel)) rfl) <|
  bb_lift (fun _ => q_goto (off := 4) (tgt := 43) (zd (i := .goto (4)) (n := 3) (by decide +kernel)) (by decide)) k
theorem w_X9_isWind_42 {Q : qQ} {I : qMI} {L : qML} {R : qMR}  (k : wkB l G (d + 1) n_X9_isWind Q 43 [.ref 292] [.int 0] I L R) : wkB l G (d + 1) n_X9_isWind Q 42 [.ref 292] [] I L R :=
  bb_lift (fun _ => q_iconst (n := 0) (zd (i := .iconst (0)) (n := 1) (by decide +kernel)) rfl) <|
  k
theorem w_X9_isWind_43 {Q : qQ} {I : qMI} {L : qML} {R : qMR} {s0 : Int32} (hQ : Q (some (.int s0)) 336 I L R) (h1 : s0 = 0 ∨ s0 = 1) : wkB l G (d + 1) n_X9_isWind Q 43 [.ref 292] [.int s0] I L R :=
  (fun lv hl => q_iret (zd (i := .ireturn) (n := 1) (by decide +kernel)) rfl (by rcases h1 with e | e <;> rw [e] <;> rfl) (Nat.le_refl _) (Nat.le_refl _) hQ)
theorem w_X9_looks_0 {Q : qQ} {I : qMI} {L : qML} {R : qMR} {a1 : Int32} (k : wkB l G (d + 1) n_X9_looks Q 2 [.ref 292, .int a1, .int 0] [] I L R) : wkB l G (d + 1) n_X9_looks Q 0 [.ref 292, .int a1, wkU] [] I L R :=
  bb_lift (fun _ => q_iconst (n := 0) (zd (i := .iconst (0)) (n := 1) (by decide +kernel)) rfl) <|
  bb_istore_n (n := 2) (i := 2) (zd (i := .istore_n 2) (n := 1) (by decide +kernel)) rfl (by decide +kernel) (wkNl_i rfl) <|
  k
theorem w_X9_looks_2 {Q : qQ} {I : qMI} {L : qML} {R : qMR} {a1 : Int32} {a2 : Int32} (kt : 9 ≤ a2 → wkB l G (d + 1) n_X9_looks Q 21 [.ref 292, .int a1, .int a2] [] I L R) (kf : ¬ 9 ≤ a2 → wkB l G (d + 1) n_X9_looks Q 8 [.ref 292, .int a1, .int a2] [] I L R) : wkB l G (d + 1) n_X9_looks Q 2 [.ref 292, .int a1, .int a2] [] I L R :=
  bb_iload_n (n := 2) (i := 2) (zd (i := .iload_n 2) (n := 1) (by decide +kernel)) rfl rfl <|
  bb_lift (fun _ => q_bipush (n := 9) (zd (i := .bipush (9)) (n := 2) (by decide +kernel)) rfl) <|
  (fun lv hl => q_icmp_ge (off := 16) (tgt := 21) (zd (i := .if_icmp .ge (16)) (n := 3) (by decide +kernel)) (by decide) (fun h => (kt h) lv hl) (fun h => (kf h) lv hl))
theorem w_X9_looks_8 {Q : qQ} {I : qMI} {L : qML} {R : qMR} (hR : wkR R) {a1 : Int32} {a2 : Int32} (h1 : vp_in a2 9) (k : wkB l G (d + 1) n_X9_looks Q 2 [.ref 292, .int a1, .int (a2 + 1)] [] (qUp I 321 a2.toNatClampNeg 0) L R) : wkB l G (d + 1) n_X9_looks Q 8 [.ref 292, .int a1, .int a2] [] I L R :=
  bb_aload_n (n := 0) (i := 0) (zd (i := .aload_n 0) (n := 1) (by decide +kernel)) rfl rfl <|
  bb_getr (k := 292) (ci := 9) (j := 45) (idx := 104) (a := 321) (zd (i := .getfield 104) (n := 3) (by decide +kernel)) (by decide +kernel) (by decide +kernel) (by decide +kernel) (by decide +kernel) rfl g1173 (hR 45 (by decide)) <|
  bb_iload_n (n := 2) (i := 2) (zd (i := .iload_n 2) (n := 1) (by decide +kernel)) rfl rfl <|
  bb_lift (fun _ => q_iconst (n := 0) (zd (i := .iconst (0)) (n := 1) (by decide +kernel)) rfl) <|
  bb_lift (fun _ => q_iast (k := 321) (zd (i := .iastore) (n := 1) (by decide +kernel)) (by decide +kernel) (by decide +kernel) h1) <|
  bb_iinc (i := 2) (n := 1) (zd (i := .iinc 2 (1)) (n := 3) (by decide +kernel)) rfl rfl (by decide +kernel) (wkNl_i rfl) <|
  bb_lift (fun _ => q_goto (off := -16) (tgt := 2) (zd (i := .goto (-16)) (n := 3) (by decide +kernel)) (by decide)) k
theorem w_X9_looks_21 {Q : qQ} {I : qMI} {L : qML} {R : qMR} (hR : wkR R) {a1 : Int32} {a2 : Int32} (h1 : vp_in 0 9) (h2 : vp_in 1 9) (hQ : Q none 336 (qUp (qUp I 321 (0 : Int32).toNatClampNeg (a1 - a1 / 24 * 24)) 321 (1 : Int32).toNatClampNeg (a1 / 24)) L R) : wkB l G (d + 1) n_X9_looks Q 21 [.ref 292, .int a1, .int a2] [] I L R :=
  bb_aload_n (n := 0) (i := 0) (zd (i := .aload_n 0) (n := 1) (by decide +kernel)) rfl rfl <|
  bb_getr (k := 292) (ci := 9) (j := 45) (idx := 104) (a := 321) (zd (i := .getfield 104) (n := 3) (by decide +kernel)) (by decide +kernel) (by decide +kernel) (by decide +kernel) (by decide +kernel) rfl g1173 (hR 45 (by decide)) <|
  bb_lift (fun _ => q_iconst (n := 0) (zd (i := .iconst (0)) (n := 1) (by decide +kernel)) rfl) <|
  bb_iload_n (n := 1) (i := 1) (zd (i := .iload_n 1) (n := 1) (by decide +kernel)) rfl rfl <|
  bb_lift (fun _ => q_bipush (n := 24) (zd (i := .bipush (24)) (n := 2) (by decide +kernel)) rfl) <|
  bb_lift (fun _ => q_irem (zd (i := .irem) (n := 1) (by decide +kernel)) (by decide)) <|
  bb_lift (fun _ => q_iast (k := 321) (zd (i := .iastore) (n := 1) (by decide +kernel)) (by decide +kernel) (by decide +kernel) h1) <|
  bb_aload_n (n := 0) (i := 0) (zd (i := .aload_n 0) (n := 1) (by decide +kernel)) rfl rfl <|
  bb_getr (k := 292) (ci := 9) (j := 45) (idx := 104) (a := 321) (zd (i := .getfield 104) (n := 3) (by decide +kernel)) (by decide +kernel) (by decide +kernel) (by decide +kernel) (by decide +kernel) rfl g1173 (hR 45 (by decide)) <|
  bb_lift (fun _ => q_iconst (n := 1) (zd (i := .iconst (1)) (n := 1) (by decide +kernel)) rfl) <|
  bb_iload_n (n := 1) (i := 1) (zd (i := .iload_n 1) (n := 1) (by decide +kernel)) rfl rfl <|
  bb_lift (fun _ => q_bipush (n := 24) (zd (i := .bipush (24)) (n := 2) (by decide +kernel)) rfl) <|
  bb_lift (fun _ => q_idiv (zd (i := .idiv) (n := 1) (by decide +kernel)) (by decide)) <|
  bb_lift (fun _ => q_iast (k := 321) (zd (i := .iastore) (n := 1) (by decide +kernel)) (by decide +kernel) (by decide +kernel) h2) <|
  (fun lv hl => q_vret (zd (i := .return_) (n := 1) (by decide +kernel)) rfl (Nat.le_refl _) (Nat.le_refl _) hQ)
theorem w_X9_heatAt_0 {Q : qQ} {I : qMI} {L : qML} {R : qMR} {a1 : Int32} {P : qMI → qML → Prop} (hc : wkV l G d n_X9_looks [.ref 292, .int a1] I L R P) (kk : ∀ I' L', P I' L' → wkB l G (d + 1) n_X9_heatAt Q 5 [.ref 292, .int a1] [] I' L' R) : wkB l G (d + 1) n_X9_heatAt Q 0 [.ref 292, .int a1] [] I L R :=
  bb_aload_n (n := 0) (i := 0) (zd (i := .aload_n 0) (n := 1) (by decide +kernel)) rfl rfl <|
  bb_iload_n (n := 1) (i := 1) (zd (i := .iload_n 1) (n := 1) (by decide +kernel)) rfl rfl <|
  bb_callVV (idx := 318) (k := 292) (ci := 9) (N := n_X9_looks) (As := [.int a1]) (st := []) (zd (i := .invokevirtual 318) (n := 3) (by decide +kernel)) to_X9_looks g1465 g1467 g72 (Nat.le_of_ble_eq_true rfl) (by decide +kernel) (by decide +kernel) (by decide +kernel) rfl rfl rfl hc kk
theorem w_X9_heatAt_5 {Q : qQ} {I : qMI} {L : qML} {R : qMR} (hR : wkR R) {a1 : Int32} (h1 : vp_in 0 9) {P : Int32 → qMI → qML → Prop} (hc : wkI l G d n_X9_lawTells [.ref 292, .int 0, .int (I 321 (0 : Int32).toNatClampNeg)] I L R P) (kk : ∀ y I' L', P y I' L' → wkB l G (d + 1) n_X9_heatAt Q 16 [.ref 292, .int a1] [.int y] I' L' R) : wkB l G (d + 1) n_X9_heatAt Q 5 [.ref 292, .int a1] [] I L R :=
  bb_aload_n (n := 0) (i := 0) (zd (i := .aload_n 0) (n := 1) (by decide +kernel)) rfl rfl <|
  bb_lift (fun _ => q_iconst (n := 0) (zd (i := .iconst (0)) (n := 1) (by decide +kernel)) rfl) <|
  bb_aload_n (n := 0) (i := 0) (zd (i := .aload_n 0) (n := 1) (by decide +kernel)) rfl rfl <|
  bb_getr (k := 292) (ci := 9) (j := 45) (idx := 104) (a := 321) (zd (i := .getfield 104) (n := 3) (by decide +kernel)) (by decide +kernel) (by decide +kernel) (by decide +kernel) (by decide +kernel) rfl g1173 (hR 45 (by decide)) <|
  bb_lift (fun _ => q_iconst (n := 0) (zd (i := .iconst (0)) (n := 1) (by decide +kernel)) rfl) <|
  bb_lift (fun _ => q_iald (k := 321) (zd (i := .iaload) (n := 1) (by decide +kernel)) (by decide +kernel) (by decide +kernel) h1) <|
  bb_callVI (idx := 321) (k := 292) (ci := 9) (N := n_X9_lawTells) (As := [.int 0, .int (I 321 (0 : Int32).toNatClampNeg)]) (st := []) (zd (i := .invokevirtual 321) (n := 3) (by decide +kernel)) to_X9_lawTells g1469 g1471 g73 (Nat.le_of_ble_eq_true rfl) (by decide +kernel) (by decide +kernel) (by decide +kernel) rfl rfl rfl hc kk
theorem w_X9_heatAt_16 {Q : qQ} {I : qMI} {L : qML} {R : qMR} {a1 : Int32} {s0 : Int32} {P : Int32 → qMI → qML → Prop} (hc : wkI l G d n_X9_held [.int s0, .int 0, .int 99] I L R P) (kk : ∀ y I' L', P y I' L' → wkB l G (d + 1) n_X9_heatAt Q 22 [.ref 292, .int a1] [.int y] I' L' R) : wkB l G (d + 1) n_X9_heatAt Q 16 [.ref 292, .int a1] [.int s0] I L R :=
  bb_lift (fun _ => q_iconst (n := 0) (zd (i := .iconst (0)) (n := 1) (by decide +kernel)) rfl) <|
  bb_lift (fun _ => q_bipush (n := 99) (zd (i := .bipush (99)) (n := 2) (by decide +kernel)) rfl) <|
  bb_callSI (idx := 324) (N := n_X9_held) (As := [.int s0, .int 0, .int 99]) (st := []) (zd (i := .invokestatic 324) (n := 3) (by decide +kernel)) to_X9_held g1477 g1478 (Nat.le_of_ble_eq_true rfl) rfl rfl hc kk
theorem w_X9_heatAt_22 {Q : qQ} {I : qMI} {L : qML} {R : qMR} {a1 : Int32} {s0 : Int32} (hQ : Q (some (.int s0)) 336 I L R) : wkB l G (d + 1) n_X9_heatAt Q 22 [.ref 292, .int a1] [.int s0] I L R :=
  (fun lv hl => q_iret (zd (i := .ireturn) (n := 1) (by decide +kernel)) rfl rfl (Nat.le_refl _) (Nat.le_refl _) hQ)
theorem w_X9_looksAt_0 {Q : qQ} {I : qMI} {L : qML} {R : qMR} {a1 : Int32} {a2 : Int32} {a3 : Int32} {a4 : Int32} {P : Int32 → qMI → qML → Prop} (hc : wkI l G d n_X9_heatAt [.ref 292, .int a4] I L R P) (kk : ∀ y I' L', P y I' L' → wkB l G (d + 1) n_X9_looksAt Q 6 [.ref 292, .int a1, .int a2, .int a3, .int a4, wkU] [.int y] I' L' R) : wkB l G (d + 1) n_X9_looksAt Q 0 [.ref 292, .int a1, .int a2, .int a3, .int a4, wkU] [] I L R :=
  bb_aload_n (n := 0) (i := 0) (zd (i := .aload_n 0) (n := 1) (by decide +kernel)) rfl rfl <|
  bb_iload (i := 4) (zd (i := .iload 4) (n := 2) (by decide +kernel)) rfl <|
  bb_callVI (idx := 327) (k := 292) (ci := 9) (N := n_X9_heatAt) (As := [.int a4]) (st := []) (zd (i := .invokevirtual 327) (n := 3) (by decide +kernel)) to_X9_heatAt g1461 g1463 g71 (Nat.le_of_ble_eq_true rfl) (by decide +kernel) (by decide +kernel) (by decide +kernel) rfl rfl rfl hc kk
theorem w_X9_looksAt_6 {Q : qQ} {I : qMI} {L : qML} {R : qMR} {a1 : Int32} {a2 : Int32} {a3 : Int32} {a4 : Int32} {s0 : Int32} {P : qMI → qML → Prop} (hc : wkV l G d n_X9_looks [.ref 292, .int a4] I L R P) (kk : ∀ I' L', P I' L' → wkB l G (d + 1) n_X9_looksAt Q 14 [.ref 292, .int a1, .int a2, .int a3, .int a4, .int s0] [] I' L' R) : wkB l G (d + 1) n_X9_looksAt Q 6 [.ref 292, .int a1, .int a2, .int a3, .int a4, wkU] [.int s0] I L R :=
  bb_istore (i := 5) (zd (i := .istore 5) (n := 2) (by decide +kernel)) (by decide +kernel) (wkNl_i rfl) <|
  bb_aload_n (n := 0) (i := 0) (zd (i := .aload_n 0) (n := 1) (by decide +kernel)) rfl rfl <|
  bb_iload (i := 4) (zd (i := .iload 4) (n := 2) (by decide +kernel)) rfl <|
  bb_callVV (idx := 318) (k := 292) (ci := 9) (N := n_X9_looks) (As := [.int a4]) (st := []) (zd (i := .invokevirtual 318) (n := 3) (by decide +kernel)) to_X9_looks g1465 g1467 g72 (Nat.le_of_ble_eq_true rfl) (by decide +kernel) (by decide +kernel) (by decide +kernel) rfl rfl rfl hc kk
theorem w_X9_looksAt_14 {Q : qQ} {I : qMI} {L : qML} {R : qMR} (hR : wkR R) {a1 : Int32} {a2 : Int32} {a3 : Int32} {a4 : Int32} {a5 : Int32} (h1 : vp_in 2 9) {P : Int32 → qMI → qML → Prop} (hc : wkI l G d n_X9_off [.int a1, .int a2] (qUp I 321 (2 : Int32).toNatClampNeg a5) L R P) (kk : ∀ y I' L', P y I' L' → wkB l G (d + 1) n_X9_looksAt Q 32 [.ref 292, .int a1, .int a2, .int a3, .int a4, .int a5] [.int y, .int 3, .ref 321] I' L' R) : wkB l G (d + 1) n_X9_looksAt Q 14 [.ref 292, .int a1, .int a2, .int a3, .int a4, .int a5] [] I L R :=
  bb_aload_n (n := 0) (i := 0) (zd (i := .aload_n 0) (n := 1) (by decide +kernel)) rfl rfl <|
  bb_getr (k := 292) (ci := 9) (j := 45) (idx := 104) (a := 321) (zd (i := .getfield 104) (n := 3) (by decide +kernel)) (by decide +kernel) (by decide +kernel) (by decide +kernel) (by decide +kernel) rfl g1173 (hR 45 (by decide)) <|
  bb_lift (fun _ => q_iconst (n := 2) (zd (i := .iconst (2)) (n := 1) (by decide +kernel)) rfl) <|
  bb_iload (i := 5) (zd (i := .iload 5) (n := 2) (by decide +kernel)) rfl <|
  bb_lift (fun _ => q_iast (k := 321) (zd (i := .iastore) (n := 1) (by decide +kernel)) (by decide +kernel) (by decide +kernel) h1) <|
  bb_aload_n (n := 0) (i := 0) (zd (i := .aload_n 0) (n := 1) (by decide +kernel)) rfl rfl <|
  bb_getr (k := 292) (ci := 9) (j := 45) (idx := 104) (a := 321) (zd (i := .getfield 104) (n := 3) (by decide +kernel)) (by decide +kernel) (by decide +kernel) (by decide +kernel) (by decide +kernel) rfl g1173 (hR 45 (by decide)) <|
  bb_lift (fun _ => q_iconst (n := 3) (zd (i := .iconst (3)) (n := 1) (by decide +kernel)) rfl) <|
  bb_iload_n (n := 1) (i := 1) (zd (i := .iload_n 1) (n := 1) (by decide +kernel)) rfl rfl <|
  bb_iload_n (n := 2) (i := 2) (zd (i := .iload_n 2) (n := 1) (by decide +kernel)) rfl rfl <|
  bb_callSI (idx := 330) (N := n_X9_off) (As := [.int a1, .int a2]) (st := [.int 3, .ref 321]) (zd (i := .invokestatic 330) (n := 3) (by decide +kernel)) to_X9_off g1480 g1481 (Nat.le_of_ble_eq_true rfl) rfl rfl hc kk
theorem w_X9_looksAt_32 {Q : qQ} {I : qMI} {L : qML} {R : qMR} (hR : wkR R) {a1 : Int32} {a2 : Int32} {a3 : Int32} {a4 : Int32} {a5 : Int32} {s1 : Int32} {s2 : Int32} (h1 : vp_in s1 9) (h2 : vp_in 4 9) (h3 : vp_in 5 9) (kt : a2 ≤ a1 → wkB l G (d + 1) n_X9_looksAt Q 62 [.ref 292, .int a1, .int a2, .int a3, .int a4, .int a5] [.int 7, .ref 321] (qUp (qUp (qUp I 321 s1.toNatClampNeg s2) 321 (4 : Int32).toNatClampNeg a3) 321 (5 : Int32).toNatClampNeg a2) L R) (kf : ¬ a2 ≤ a1 → wkB l G (d + 1) n_X9_looksAt Q 58 [.ref 292, .int a1, .int a2, .int a3, .int a4, .int a5] [.int 7, .ref 321] (qUp (qUp (qUp I 321 s1.toNatClampNeg s2) 321 (4 : Int32).toNatClampNeg a3) 321 (5 : Int32).toNatClampNeg a2) L R) : wkB l G (d + 1) n_X9_looksAt Q 32 [.ref 292, .int a1, .int a2, .int a3, .int a4, .int a5] [.int s2, .int s1, .ref 321] I L R :=
  bb_lift (fun _ => q_iast (k := 321) (zd (i := .iastore) (n := 1) (by decide +kernel)) (by decide +kernel) (by decide +kernel) h1) <|
  bb_aload_n (n := 0) (i := 0) (zd (i := .aload_n 0) (n := 1) (by decide +kernel)) rfl rfl <|
  bb_getr (k := 292) (ci := 9) (j := 45) (idx := 104) (a := 321) (zd (i := .getfield 104) (n := 3) (by decide +kernel)) (by decide +kernel) (by decide +kernel) (by decide +kernel) (by decide +kernel) rfl g1173 (hR 45 (by decide)) <|
  bb_lift (fun _ => q_iconst (n := 4) (zd (i := .iconst (4)) (n := 1) (by decide +kernel)) rfl) <|
  bb_iload_n (n := 3) (i := 3) (zd (i := .iload_n 3) (n := 1) (by decide +kernel)) rfl rfl <|
  bb_lift (fun _ => q_iast (k := 321) (zd (i := .iastore) (n := 1) (by decide +kernel)) (by decide +kernel) (by decide +kernel) h2) <|
  bb_aload_n (n := 0) (i := 0) (zd (i := .aload_n 0) (n := 1) (by decide +kernel)) rfl rfl <|
  bb_getr (k := 292) (ci := 9) (j := 45) (idx := 104) (a := 321) (zd (i := .getfield 104) (n := 3) (by decide +kernel)) (by decide +kernel) (by decide +kernel) (by decide +kernel) (by decide +kernel) rfl g1173 (hR 45 (by decide)) <|
  bb_lift (fun _ => q_iconst (n := 5) (zd (i := .iconst (5)) (n := 1) (by decide +kernel)) rfl) <|
  bb_iload_n (n := 2) (i := 2) (zd (i := .iload_n 2) (n := 1) (by decide +kernel)) rfl rfl <|
  bb_lift (fun _ => q_iast (k := 321) (zd (i := .iastore) (n := 1) (by decide +kernel)) (by decide +kernel) (by decide +kernel) h3) <|
  bb_aload_n (n := 0) (i := 0) (zd (i := .aload_n 0) (n := 1) (by decide +kernel)) rfl rfl <|
  bb_getr (k := 292) (ci := 9) (j := 45) (idx := 104) (a := 321) (zd (i := .getfield 104) (n := 3) (by decide +kernel)) (by decide +kernel) (by decide +kernel) (by decide +kernel) (by decide +kernel) rfl g1173 (hR 45 (by decide)) <|
  bb_lift (fun _ => q_bipush (n := 7) (zd (i := .bipush (7)) (n := 2) (by decide +kernel)) rfl) <|
  bb_iload_n (n := 2) (i := 2) (zd (i := .iload_n 2) (n := 1) (by decide +kernel)) rfl rfl <|
  bb_iload_n (n := 1) (i := 1) (zd (i := .iload_n 1) (n := 1) (by decide +kernel)) rfl rfl <|
  (fun lv hl => q_icmp_le (off := 7) (tgt := 62) (zd (i := .if_icmp .le (7)) (n := 3) (by decide +kernel)) (by decide) (fun h => (kt h) lv hl) (fun h => (kf h) lv hl))
theorem w_X9_looksAt_58 {Q : qQ} {I : qMI} {L : qML} {R : qMR} {a1 : Int32} {a2 : Int32} {a3 : Int32} {a4 : Int32} {a5 : Int32} {s1 : Int32} (k : wkB l G (d + 1) n_X9_looksAt Q 63 [.ref 292, .int a1, .int a2, .int a3, .int a4, .int a5] [.int 1, .int s1, .ref 321] I L R) : wkB l G (d + 1) n_X9_looksAt Q 58 [.ref 292, .int a1, .int a2, .int a3, .int a4, .int a5] [.int s1, .ref 321] I L R :=
  bb_lift (fun _ => q_iconst (n := 1) (zd (i := .iconst (1)) (n := 1) (by decide +kernel)) rfl) <|
  bb_lift (fun _ => q_goto (off := 4) (tgt := 63) (zd (i := .goto (4)) (n := 3) (by decide +kernel)) (by decide)) k
theorem w_X9_looksAt_62 {Q : qQ} {I : qMI} {L : qML} {R : qMR} {a1 : Int32} {a2 : Int32} {a3 : Int32} {a4 : Int32} {a5 : Int32} {s1 : Int32} (k : wkB l G (d + 1) n_X9_looksAt Q 63 [.ref 292, .int a1, .int a2, .int a3, .int a4, .int a5] [.int 0, .int s1, .ref 321] I L R) : wkB l G (d + 1) n_X9_looksAt Q 62 [.ref 292, .int a1, .int a2, .int a3, .int a4, .int a5] [.int s1, .ref 321] I L R :=
  bb_lift (fun _ => q_iconst (n := 0) (zd (i := .iconst (0)) (n := 1) (by decide +kernel)) rfl) <|
  k
theorem w_X9_looksAt_63 {Q : qQ} {I : qMI} {L : qML} {R : qMR} (hR : wkR R) {a1 : Int32} {a2 : Int32} {a3 : Int32} {a4 : Int32} {a5 : Int32} {s1 : Int32} {s2 : Int32} (h1 : vp_in s1 9) (h2 : vp_in 8 9) (hQ : Q none 336 (qUp (qUp I 321 s1.toNatClampNeg s2) 321 (8 : Int32).toNatClampNeg a1) L R) : wkB l G (d + 1) n_X9_looksAt Q 63 [.ref 292, .int a1, .int a2, .int a3, .int a4, .int a5] [.int s2, .int s1, .ref 321] I L R :=
  bb_lift (fun _ => q_iast (k := 321) (zd (i := .iastore) (n := 1) (by decide +kernel)) (by decide +kernel) (by decide +kernel) h1) <|
  bb_aload_n (n := 0) (i := 0) (zd (i := .aload_n 0) (n := 1) (by decide +kernel)) rfl rfl <|
  bb_getr (k := 292) (ci := 9) (j := 45) (idx := 104) (a := 321) (zd (i := .getfield 104) (n := 3) (by decide +kernel)) (by decide +kernel) (by decide +kernel) (by decide +kernel) (by decide +kernel) rfl g1173 (hR 45 (by decide)) <|
  bb_lift (fun _ => q_bipush (n := 8) (zd (i := .bipush (8)) (n := 2) (by decide +kernel)) rfl) <|
  bb_iload_n (n := 1) (i := 1) (zd (i := .iload_n 1) (n := 1) (by decide +kernel)) rfl rfl <|
  bb_lift (fun _ => q_iast (k := 321) (zd (i := .iastore) (n := 1) (by decide +kernel)) (by decide +kernel) (by decide +kernel) h2) <|
  (fun lv hl => q_vret (zd (i := .return_) (n := 1) (by decide +kernel)) rfl (Nat.le_refl _) (Nat.le_refl _) hQ)
theorem w_X9_isSeen_0 {Q : qQ} {I : qMI} {L : qML} {R : qMR} {a1 : Int32} {a2 : Int32} {a3 : Int32} {a4 : Int32} {P : qMI → qML → Prop} (hc : wkV l G d n_X9_looksAt [.ref 292, .int a1, .int a2, .int a3, .int a4] I L R P) (kk : ∀ I' L', P I' L' → wkB l G (d + 1) n_X9_isSeen Q 9 [.ref 292, .int a1, .int a2, .int a3, .int a4] [] I' L' R) : wkB l G (d + 1) n_X9_isSeen Q 0 [.ref 292, .int a1, .int a2, .int a3, .int a4] [] I L R :=
  bb_aload_n (n := 0) (i := 0) (zd (i := .aload_n 0) (n := 1) (by decide +kernel)) rfl rfl <|
  bb_iload_n (n := 1) (i := 1) (zd (i := .iload_n 1) (n := 1) (by decide +kernel)) rfl rfl <|
  bb_iload_n (n := 2) (i := 2) (zd (i := .iload_n 2) (n := 1) (by decide +kernel)) rfl rfl <|
  bb_iload_n (n := 3) (i := 3) (zd (i := .iload_n 3) (n := 1) (by decide +kernel)) rfl rfl <|
  bb_iload (i := 4) (zd (i := .iload 4) (n := 2) (by decide +kernel)) rfl <|
  bb_callVV (idx := 333) (k := 292) (ci := 9) (N := n_X9_looksAt) (As := [.int a1, .int a2, .int a3, .int a4]) (st := []) (zd (i := .invokevirtual 333) (n := 3) (by decide +kernel)) to_X9_looksAt g1457 g1459 g70 (Nat.le_of_ble_eq_true rfl) (by decide +kernel) (by decide +kernel) (by decide +kernel) rfl rfl rfl hc kk
theorem w_X9_isSeen_9 {Q : qQ} {I : qMI} {L : qML} {R : qMR} (hR : wkR R) {a1 : Int32} {a2 : Int32} {a3 : Int32} {a4 : Int32} (h1 : vp_in 2 9) (h2 : vp_in 3 9) {P : Int32 → qMI → qML → Prop} (hc : wkI l G d n_X9_lawTells [.ref 292, .int 1, .int ((I 321 (2 : Int32).toNatClampNeg) - (I 321 (3 : Int32).toNatClampNeg))] I L R P) (kk : ∀ y I' L', P y I' L' → wkB l G (d + 1) n_X9_isSeen Q 27 [.ref 292, .int a1, .int a2, .int a3, .int a4] [.int y] I' L' R) : wkB l G (d + 1) n_X9_isSeen Q 9 [.ref 292, .int a1, .int a2, .int a3, .int a4] [] I L R :=
  bb_aload_n (n := 0) (i := 0) (zd (i := .aload_n 0) (n := 1) (by decide +kernel)) rfl rfl <|
  bb_lift (fun _ => q_iconst (n := 1) (zd (i := .iconst (1)) (n := 1) (by decide +kernel)) rfl) <|
  bb_aload_n (n := 0) (i := 0) (zd (i := .aload_n 0) (n := 1) (by decide +kernel)) rfl rfl <|
  bb_getr (k := 292) (ci := 9) (j := 45) (idx := 104) (a := 321) (zd (i := .getfield 104) (n := 3) (by decide +kernel)) (by decide +kernel) (by decide +kernel) (by decide +kernel) (by decide +kernel) rfl g1173 (hR 45 (by decide)) <|
  bb_lift (fun _ => q_iconst (n := 2) (zd (i := .iconst (2)) (n := 1) (by decide +kernel)) rfl) <|
  bb_lift (fun _ => q_iald (k := 321) (zd (i := .iaload) (n := 1) (by decide +kernel)) (by decide +kernel) (by decide +kernel) h1) <|
  bb_aload_n (n := 0) (i := 0) (zd (i := .aload_n 0) (n := 1) (by decide +kernel)) rfl rfl <|
  bb_getr (k := 292) (ci := 9) (j := 45) (idx := 104) (a := 321) (zd (i := .getfield 104) (n := 3) (by decide +kernel)) (by decide +kernel) (by decide +kernel) (by decide +kernel) (by decide +kernel) rfl g1173 (hR 45 (by decide)) <|
  bb_lift (fun _ => q_iconst (n := 3) (zd (i := .iconst (3)) (n := 1) (by decide +kernel)) rfl) <|
  bb_lift (fun _ => q_iald (k := 321) (zd (i := .iaload) (n := 1) (by decide +kernel)) (by decide +kernel) (by decide +kernel) h2) <|
  bb_lift (fun _ => q_isub (zd (i := .isub) (n := 1) (by decide +kernel))) <|
  bb_callVI (idx := 321) (k := 292) (ci := 9) (N := n_X9_lawTells) (As := [.int 1, .int ((I 321 (2 : Int32).toNatClampNeg) - (I 321 (3 : Int32).toNatClampNeg))]) (st := []) (zd (i := .invokevirtual 321) (n := 3) (by decide +kernel)) to_X9_lawTells g1469 g1471 g73 (Nat.le_of_ble_eq_true rfl) (by decide +kernel) (by decide +kernel) (by decide +kernel) rfl rfl rfl hc kk
theorem w_X9_isSeen_27 {Q : qQ} {I : qMI} {L : qML} {R : qMR} {a1 : Int32} {a2 : Int32} {a3 : Int32} {a4 : Int32} {s0 : Int32} (kt : s0 ≤ 0 → wkB l G (d + 1) n_X9_isSeen Q 34 [.ref 292, .int a1, .int a2, .int a3, .int a4] [] I L R) (kf : ¬ s0 ≤ 0 → wkB l G (d + 1) n_X9_isSeen Q 30 [.ref 292, .int a1, .int a2, .int a3, .int a4] [] I L R) : wkB l G (d + 1) n_X9_isSeen Q 27 [.ref 292, .int a1, .int a2, .int a3, .int a4] [.int s0] I L R :=
  (fun lv hl => q_if_le (off := 7) (tgt := 34) (zd (i := .ifCond .le (7)) (n := 3) (by decide +kernel)) (by decide) (fun h => (kt h) lv hl) (fun h => (kf h) lv hl))
theorem w_X9_isSeen_30 {Q : qQ} {I : qMI} {L : qML} {R : qMR} {a1 : Int32} {a2 : Int32} {a3 : Int32} {a4 : Int32} (k : wkB l G (d + 1) n_X9_isSeen Q 35 [.ref 292, .int a1, .int a2, .int a3, .int a4] [.int 1] I L R) : wkB l G (d + 1) n_X9_isSeen Q 30 [.ref 292, .int a1, .int a2, .int a3, .int a4] [] I L R :=
  bb_lift (fun _ => q_iconst (n := 1) (zd (i := .iconst (1)) (n := 1) (by decide +kernel)) rfl) <|
  bb_lift (fun _ => q_goto (off := 4) (tgt := 35) (zd (i := .goto (4)) (n := 3) (by decide +kernel)) (by decide)) k
theorem w_X9_isSeen_34 {Q : qQ} {I : qMI} {L : qML} {R : qMR} {a1 : Int32} {a2 : Int32} {a3 : Int32} {a4 : Int32} (k : wkB l G (d + 1) n_X9_isSeen Q 35 [.ref 292, .int a1, .int a2, .int a3, .int a4] [.int 0] I L R) : wkB l G (d + 1) n_X9_isSeen Q 34 [.ref 292, .int a1, .int a2, .int a3, .int a4] [] I L R :=
  bb_lift (fun _ => q_iconst (n := 0) (zd (i := .iconst (0)) (n := 1) (by decide +kernel)) rfl) <|
  k
theorem w_X9_isSeen_35 {Q : qQ} {I : qMI} {L : qML} {R : qMR} {a1 : Int32} {a2 : Int32} {a3 : Int32} {a4 : Int32} {s0 : Int32} (hQ : Q (some (.int s0)) 336 I L R) (h1 : s0 = 0 ∨ s0 = 1) : wkB l G (d + 1) n_X9_isSeen Q 35 [.ref 292, .int a1, .int a2, .int a3, .int a4] [.int s0] I L R :=
  (fun lv hl => q_iret (zd (i := .ireturn) (n := 1) (by decide +kernel)) rfl (by rcases h1 with e | e <;> rw [e] <;> rfl) (Nat.le_refl _) (Nat.le_refl _) hQ)
theorem w_X9_sees_0 {Q : qQ} {I : qMI} {L : qML} {R : qMR} (hR : wkR R) {a1 : Int32} {a2 : Int32} {a3 : Int32} (h1 : vp_in ((6 * (I 292 18)) + a2) 12) (h2 : vp_in ((6 * (I 292 18)) + a2) 12) {P : Int32 → qMI → qML → Prop} (hc : wkI l G d n_X9_isSeen [.ref 292, .int a1, .int (I 302 ((6 * (I 292 18)) + a2).toNatClampNeg), .int (I 303 ((6 * (I 292 18)) + a2).toNatClampNeg), .int a3] I L R P) (kk : ∀ y I' L', P y I' L' → wkB l G (d + 1) n_X9_sees Q 34 [.ref 292, .int a1, .int a2, .int a3] [.int y] I' L' R) : wkB l G (d + 1) n_X9_sees Q 0 [.ref 292, .int a1, .int a2, .int a3] [] I L R :=
  bb_aload_n (n := 0) (i := 0) (zd (i := .aload_n 0) (n := 1) (by decide +kernel)) rfl rfl <|
  bb_iload_n (n := 1) (i := 1) (zd (i := .iload_n 1) (n := 1) (by decide +kernel)) rfl rfl <|
  bb_aload_n (n := 0) (i := 0) (zd (i := .aload_n 0) (n := 1) (by decide +kernel)) rfl rfl <|
  bb_getr (k := 292) (ci := 9) (j := 23) (idx := 46) (a := 302) (zd (i := .getfield 46) (n := 3) (by decide +kernel)) (by decide +kernel) (by decide +kernel) (by decide +kernel) (by decide +kernel) rfl g1151 (hR 23 (by decide)) <|
  bb_lift (fun _ => q_bipush (n := 6) (zd (i := .bipush (6)) (n := 2) (by decide +kernel)) rfl) <|
  bb_aload_n (n := 0) (i := 0) (zd (i := .aload_n 0) (n := 1) (by decide +kernel)) rfl rfl <|
  bb_geti (k := 292) (ci := 9) (j := 18) (idx := 230) (zd (i := .getfield 230) (n := 3) (by decide +kernel)) (by decide +kernel) (by decide +kernel) (by decide +kernel) (by decide +kernel) rfl g1146 <|
  bb_lift (fun _ => q_imul (zd (i := .imul) (n := 1) (by decide +kernel))) <|
  bb_iload_n (n := 2) (i := 2) (zd (i := .iload_n 2) (n := 1) (by decide +kernel)) rfl rfl <|
  bb_lift (fun _ => q_iadd (zd (i := .iadd) (n := 1) (by decide +kernel))) <|
  bb_lift (fun _ => q_iald (k := 302) (zd (i := .iaload) (n := 1) (by decide +kernel)) (by decide +kernel) (by decide +kernel) h1) <|
  bb_aload_n (n := 0) (i := 0) (zd (i := .aload_n 0) (n := 1) (by decide +kernel)) rfl rfl <|
  bb_getr (k := 292) (ci := 9) (j := 24) (idx := 49) (a := 303) (zd (i := .getfield 49) (n := 3) (by decide +kernel)) (by decide +kernel) (by decide +kernel) (by decide +kernel) (by decide +kernel) rfl g1152 (hR 24 (by decide)) <|
  bb_lift (fun _ => q_bipush (n := 6) (zd (i := .bipush (6)) (n := 2) (by decide +kernel)) rfl) <|
  bb_aload_n (n := 0) (i := 0) (zd (i := .aload_n 0) (n := 1) (by decide +kernel)) rfl rfl <|
  bb_geti (k := 292) (ci := 9) (j := 18) (idx := 230) (zd (i := .getfield 230) (n := 3) (by decide +kernel)) (by decide +kernel) (by decide +kernel) (by decide +kernel) (by decide +kernel) rfl g1146 <|
  bb_lift (fun _ => q_imul (zd (i := .imul) (n := 1) (by decide +kernel))) <|
  bb_iload_n (n := 2) (i := 2) (zd (i := .iload_n 2) (n := 1) (by decide +kernel)) rfl rfl <|
  bb_lift (fun _ => q_iadd (zd (i := .iadd) (n := 1) (by decide +kernel))) <|
  bb_lift (fun _ => q_iald (k := 303) (zd (i := .iaload) (n := 1) (by decide +kernel)) (by decide +kernel) (by decide +kernel) h2) <|
  bb_iload_n (n := 3) (i := 3) (zd (i := .iload_n 3) (n := 1) (by decide +kernel)) rfl rfl <|
  bb_callVI (idx := 337) (k := 292) (ci := 9) (N := n_X9_isSeen) (As := [.int a1, .int (I 302 ((6 * (I 292 18)) + a2).toNatClampNeg), .int (I 303 ((6 * (I 292 18)) + a2).toNatClampNeg), .int a3]) (st := []) (zd (i := .invokevirtual 337) (n := 3) (by decide +kernel)) to_X9_isSeen g1453 g1455 g69 (Nat.le_of_ble_eq_true rfl) (by decide +kernel) (by decide +kernel) (by decide +kernel) rfl rfl rfl hc kk
theorem w_X9_sees_34 {Q : qQ} {I : qMI} {L : qML} {R : qMR} {a1 : Int32} {a2 : Int32} {a3 : Int32} {s0 : Int32} (hQ : Q (some (.int s0)) 336 I L R) (h1 : s0 = 0 ∨ s0 = 1) : wkB l G (d + 1) n_X9_sees Q 34 [.ref 292, .int a1, .int a2, .int a3] [.int s0] I L R :=
  (fun lv hl => q_iret (zd (i := .ireturn) (n := 1) (by decide +kernel)) rfl (by rcases h1 with e | e <;> rw [e] <;> rfl) (Nat.le_refl _) (Nat.le_refl _) hQ)
theorem w_X9_rentOf_0 {Q : qQ} {I : qMI} {L : qML} {R : qMR} (hR : wkR R) {a1 : Int32} {a2 : Int32} {a3 : Int32} {a4 : Int32} (h1 : vp_in ((6 * (I 292 18)) + a2) 12) (h2 : vp_in ((6 * (I 292 18)) + a2) 12) {P : qMI → qML → Prop} (hc : wkV l G d n_X9_looksAt [.ref 292, .int a1, .int (I 302 ((6 * (I 292 18)) + a2).toNatClampNeg), .int (I 303 ((6 * (I 292 18)) + a2).toNatClampNeg), .int a4] I L R P) (kk : ∀ I' L', P I' L' → wkB l G (d + 1) n_X9_rentOf Q 35 [.ref 292, .int a1, .int a2, .int a3, .int a4] [] I' L' R) : wkB l G (d + 1) n_X9_rentOf Q 0 [.ref 292, .int a1, .int a2, .int a3, .int a4] [] I L R :=
  bb_aload_n (n := 0) (i := 0) (zd (i := .aload_n 0) (n := 1) (by decide +kernel)) rfl rfl <|
  bb_iload_n (n := 1) (i := 1) (zd (i := .iload_n 1) (n := 1) (by decide +kernel)) rfl rfl <|
  bb_aload_n (n := 0) (i := 0) (zd (i := .aload_n 0) (n := 1) (by decide +kernel)) rfl rfl <|
  bb_getr (k := 292) (ci := 9) (j := 23) (idx := 46) (a := 302) (zd (i := .getfield 46) (n := 3) (by decide +kernel)) (by decide +kernel) (by decide +kernel) (by decide +kernel) (by decide +kernel) rfl g1151 (hR 23 (by decide)) <|
  bb_lift (fun _ => q_bipush (n := 6) (zd (i := .bipush (6)) (n := 2) (by decide +kernel)) rfl) <|
  bb_aload_n (n := 0) (i := 0) (zd (i := .aload_n 0) (n := 1) (by decide +kernel)) rfl rfl <|
  bb_geti (k := 292) (ci := 9) (j := 18) (idx := 230) (zd (i := .getfield 230) (n := 3) (by decide +kernel)) (by decide +kernel) (by decide +kernel) (by decide +kernel) (by decide +kernel) rfl g1146 <|
  bb_lift (fun _ => q_imul (zd (i := .imul) (n := 1) (by decide +kernel))) <|
  bb_iload_n (n := 2) (i := 2) (zd (i := .iload_n 2) (n := 1) (by decide +kernel)) rfl rfl <|
  bb_lift (fun _ => q_iadd (zd (i := .iadd) (n := 1) (by decide +kernel))) <|
  bb_lift (fun _ => q_iald (k := 302) (zd (i := .iaload) (n := 1) (by decide +kernel)) (by decide +kernel) (by decide +kernel) h1) <|
  bb_aload_n (n := 0) (i := 0) (zd (i := .aload_n 0) (n := 1) (by decide +kernel)) rfl rfl <|
  bb_getr (k := 292) (ci := 9) (j := 24) (idx := 49) (a := 303) (zd (i := .getfield 49) (n := 3) (by decide +kernel)) (by decide +kernel) (by decide +kernel) (by decide +kernel) (by decide +kernel) rfl g1152 (hR 24 (by decide)) <|
  bb_lift (fun _ => q_bipush (n := 6) (zd (i := .bipush (6)) (n := 2) (by decide +kernel)) rfl) <|
  bb_aload_n (n := 0) (i := 0) (zd (i := .aload_n 0) (n := 1) (by decide +kernel)) rfl rfl <|
  bb_geti (k := 292) (ci := 9) (j := 18) (idx := 230) (zd (i := .getfield 230) (n := 3) (by decide +kernel)) (by decide +kernel) (by decide +kernel) (by decide +kernel) (by decide +kernel) rfl g1146 <|
  bb_lift (fun _ => q_imul (zd (i := .imul) (n := 1) (by decide +kernel))) <|
  bb_iload_n (n := 2) (i := 2) (zd (i := .iload_n 2) (n := 1) (by decide +kernel)) rfl rfl <|
  bb_lift (fun _ => q_iadd (zd (i := .iadd) (n := 1) (by decide +kernel))) <|
  bb_lift (fun _ => q_iald (k := 303) (zd (i := .iaload) (n := 1) (by decide +kernel)) (by decide +kernel) (by decide +kernel) h2) <|
  bb_iload (i := 4) (zd (i := .iload 4) (n := 2) (by decide +kernel)) rfl <|
  bb_callVV (idx := 333) (k := 292) (ci := 9) (N := n_X9_looksAt) (As := [.int a1, .int (I 302 ((6 * (I 292 18)) + a2).toNatClampNeg), .int (I 303 ((6 * (I 292 18)) + a2).toNatClampNeg), .int a4]) (st := []) (zd (i := .invokevirtual 333) (n := 3) (by decide +kernel)) to_X9_looksAt g1457 g1459 g70 (Nat.le_of_ble_eq_true rfl) (by decide +kernel) (by decide +kernel) (by decide +kernel) rfl rfl rfl hc kk
theorem w_X9_rentOf_35 {Q : qQ} {I : qMI} {L : qML} {R : qMR} (hR : wkR R) {a1 : Int32} {a2 : Int32} {a3 : Int32} {a4 : Int32} (h1 : vp_in 6 9) (h2 : vp_in 4 9) {P : Int32 → qMI → qML → Prop} (hc : wkI l G d n_X9_lawTells [.ref 292, .int 3, .int ((qUp I 321 (6 : Int32).toNatClampNeg a3) 321 (4 : Int32).toNatClampNeg)] (qUp I 321 (6 : Int32).toNatClampNeg a3) L R P) (kk : ∀ y I' L', P y I' L' → wkB l G (d + 1) n_X9_rentOf Q 54 [.ref 292, .int a1, .int a2, .int a3, .int a4] [.int y] I' L' R) : wkB l G (d + 1) n_X9_rentOf Q 35 [.ref 292, .int a1, .int a2, .int a3, .int a4] [] I L R :=
  bb_aload_n (n := 0) (i := 0) (zd (i := .aload_n 0) (n := 1) (by decide +kernel)) rfl rfl <|
  bb_getr (k := 292) (ci := 9) (j := 45) (idx := 104) (a := 321) (zd (i := .getfield 104) (n := 3) (by decide +kernel)) (by decide +kernel) (by decide +kernel) (by decide +kernel) (by decide +kernel) rfl g1173 (hR 45 (by decide)) <|
  bb_lift (fun _ => q_bipush (n := 6) (zd (i := .bipush (6)) (n := 2) (by decide +kernel)) rfl) <|
  bb_iload_n (n := 3) (i := 3) (zd (i := .iload_n 3) (n := 1) (by decide +kernel)) rfl rfl <|
  bb_lift (fun _ => q_iast (k := 321) (zd (i := .iastore) (n := 1) (by decide +kernel)) (by decide +kernel) (by decide +kernel) h1) <|
  bb_aload_n (n := 0) (i := 0) (zd (i := .aload_n 0) (n := 1) (by decide +kernel)) rfl rfl <|
  bb_lift (fun _ => q_iconst (n := 3) (zd (i := .iconst (3)) (n := 1) (by decide +kernel)) rfl) <|
  bb_aload_n (n := 0) (i := 0) (zd (i := .aload_n 0) (n := 1) (by decide +kernel)) rfl rfl <|
  bb_getr (k := 292) (ci := 9) (j := 45) (idx := 104) (a := 321) (zd (i := .getfield 104) (n := 3) (by decide +kernel)) (by decide +kernel) (by decide +kernel) (by decide +kernel) (by decide +kernel) rfl g1173 (hR 45 (by decide)) <|
  bb_lift (fun _ => q_iconst (n := 4) (zd (i := .iconst (4)) (n := 1) (by decide +kernel)) rfl) <|
  bb_lift (fun _ => q_iald (k := 321) (zd (i := .iaload) (n := 1) (by decide +kernel)) (by decide +kernel) (by decide +kernel) h2) <|
  bb_callVI (idx := 321) (k := 292) (ci := 9) (N := n_X9_lawTells) (As := [.int 3, .int ((qUp I 321 (6 : Int32).toNatClampNeg a3) 321 (4 : Int32).toNatClampNeg)]) (st := []) (zd (i := .invokevirtual 321) (n := 3) (by decide +kernel)) to_X9_lawTells g1469 g1471 g73 (Nat.le_of_ble_eq_true rfl) (by decide +kernel) (by decide +kernel) (by decide +kernel) rfl rfl rfl hc kk
theorem w_X9_rentOf_54 {Q : qQ} {I : qMI} {L : qML} {R : qMR} {a1 : Int32} {a2 : Int32} {a3 : Int32} {a4 : Int32} {s0 : Int32} {P : Int32 → qMI → qML → Prop} (hc : wkI l G d n_X9_held [.int s0, .int 0, .int 99] I L R P) (kk : ∀ y I' L', P y I' L' → wkB l G (d + 1) n_X9_rentOf Q 60 [.ref 292, .int a1, .int a2, .int a3, .int a4] [.int y] I' L' R) : wkB l G (d + 1) n_X9_rentOf Q 54 [.ref 292, .int a1, .int a2, .int a3, .int a4] [.int s0] I L R :=
  bb_lift (fun _ => q_iconst (n := 0) (zd (i := .iconst (0)) (n := 1) (by decide +kernel)) rfl) <|
  bb_lift (fun _ => q_bipush (n := 99) (zd (i := .bipush (99)) (n := 2) (by decide +kernel)) rfl) <|
  bb_callSI (idx := 324) (N := n_X9_held) (As := [.int s0, .int 0, .int 99]) (st := []) (zd (i := .invokestatic 324) (n := 3) (by decide +kernel)) to_X9_held g1477 g1478 (Nat.le_of_ble_eq_true rfl) rfl rfl hc kk
theorem w_X9_rentOf_60 {Q : qQ} {I : qMI} {L : qML} {R : qMR} {a1 : Int32} {a2 : Int32} {a3 : Int32} {a4 : Int32} {s0 : Int32} (hQ : Q (some (.int s0)) 336 I L R) : wkB l G (d + 1) n_X9_rentOf Q 60 [.ref 292, .int a1, .int a2, .int a3, .int a4] [.int s0] I L R :=
  (fun lv hl => q_iret (zd (i := .ireturn) (n := 1) (by decide +kernel)) rfl rfl (Nat.le_refl _) (Nat.le_refl _) hQ)
theorem w_X9_interestOf_0 {Q : qQ} {I : qMI} {L : qML} {R : qMR} {a1 : Int32} {a2 : Int32} {P : Int32 → qMI → qML → Prop} (hc : wkI l G d n_X9_heatAt [.ref 292, .int a2] I L R P) (kk : ∀ y I' L', P y I' L' → wkB l G (d + 1) n_X9_interestOf Q 5 [.ref 292, .int a1, .int a2, wkU] [.int y] I' L' R) : wkB l G (d + 1) n_X9_interestOf Q 0 [.ref 292, .int a1, .int a2, wkU] [] I L R :=
  bb_aload_n (n := 0) (i := 0) (zd (i := .aload_n 0) (n := 1) (by decide +kernel)) rfl rfl <|
  bb_iload_n (n := 2) (i := 2) (zd (i := .iload_n 2) (n := 1) (by decide +kernel)) rfl rfl <|
  bb_callVI (idx := 327) (k := 292) (ci := 9) (N := n_X9_heatAt) (As := [.int a2]) (st := []) (zd (i := .invokevirtual 327) (n := 3) (by decide +kernel)) to_X9_heatAt g1461 g1463 g71 (Nat.le_of_ble_eq_true rfl) (by decide +kernel) (by decide +kernel) (by decide +kernel) rfl rfl rfl hc kk
theorem w_X9_interestOf_5 {Q : qQ} {I : qMI} {L : qML} {R : qMR} {a1 : Int32} {a2 : Int32} {s0 : Int32} {P : qMI → qML → Prop} (hc : wkV l G d n_X9_looks [.ref 292, .int a2] I L R P) (kk : ∀ I' L', P I' L' → wkB l G (d + 1) n_X9_interestOf Q 11 [.ref 292, .int a1, .int a2, .int s0] [] I' L' R) : wkB l G (d + 1) n_X9_interestOf Q 5 [.ref 292, .int a1, .int a2, wkU] [.int s0] I L R :=
  bb_istore_n (n := 3) (i := 3) (zd (i := .istore_n 3) (n := 1) (by decide +kernel)) rfl (by decide +kernel) (wkNl_i rfl) <|
  bb_aload_n (n := 0) (i := 0) (zd (i := .aload_n 0) (n := 1) (by decide +kernel)) rfl rfl <|
  bb_iload_n (n := 2) (i := 2) (zd (i := .iload_n 2) (n := 1) (by decide +kernel)) rfl rfl <|
  bb_callVV (idx := 318) (k := 292) (ci := 9) (N := n_X9_looks) (As := [.int a2]) (st := []) (zd (i := .invokevirtual 318) (n := 3) (by decide +kernel)) to_X9_looks g1465 g1467 g72 (Nat.le_of_ble_eq_true rfl) (by decide +kernel) (by decide +kernel) (by decide +kernel) rfl rfl rfl hc kk
theorem w_X9_interestOf_11 {Q : qQ} {I : qMI} {L : qML} {R : qMR} (hR : wkR R) {a1 : Int32} {a2 : Int32} {a3 : Int32} (h1 : vp_in 2 9) (h2 : vp_in 6 9) {P : Int32 → qMI → qML → Prop} (hc : wkI l G d n_X9_lawTells [.ref 292, .int 4, .int 0] (qUp (qUp I 321 (2 : Int32).toNatClampNeg a3) 321 (6 : Int32).toNatClampNeg a1) L R P) (kk : ∀ y I' L', P y I' L' → wkB l G (d + 1) n_X9_interestOf Q 32 [.ref 292, .int a1, .int a2, .int a3] [.int y] I' L' R) : wkB l G (d + 1) n_X9_interestOf Q 11 [.ref 292, .int a1, .int a2, .int a3] [] I L R :=
  bb_aload_n (n := 0) (i := 0) (zd (i := .aload_n 0) (n := 1) (by decide +kernel)) rfl rfl <|
  bb_getr (k := 292) (ci := 9) (j := 45) (idx := 104) (a := 321) (zd (i := .getfield 104) (n := 3) (by decide +kernel)) (by decide +kernel) (by decide +kernel) (by decide +kernel) (by decide +kernel) rfl g1173 (hR 45 (by decide)) <|
  bb_lift (fun _ => q_iconst (n := 2) (zd (i := .iconst (2)) (n := 1) (by decide +kernel)) rfl) <|
  bb_iload_n (n := 3) (i := 3) (zd (i := .iload_n 3) (n := 1) (by decide +kernel)) rfl rfl <|
  bb_lift (fun _ => q_iast (k := 321) (zd (i := .iastore) (n := 1) (by decide +kernel)) (by decide +kernel) (by decide +kernel) h1) <|
  bb_aload_n (n := 0) (i := 0) (zd (i := .aload_n 0) (n := 1) (by decide +kernel)) rfl rfl <|
  bb_getr (k := 292) (ci := 9) (j := 45) (idx := 104) (a := 321) (zd (i := .getfield 104) (n := 3) (by decide +kernel)) (by decide +kernel) (by decide +kernel) (by decide +kernel) (by decide +kernel) rfl g1173 (hR 45 (by decide)) <|
  bb_lift (fun _ => q_bipush (n := 6) (zd (i := .bipush (6)) (n := 2) (by decide +kernel)) rfl) <|
  bb_iload_n (n := 1) (i := 1) (zd (i := .iload_n 1) (n := 1) (by decide +kernel)) rfl rfl <|
  bb_lift (fun _ => q_iast (k := 321) (zd (i := .iastore) (n := 1) (by decide +kernel)) (by decide +kernel) (by decide +kernel) h2) <|
  bb_aload_n (n := 0) (i := 0) (zd (i := .aload_n 0) (n := 1) (by decide +kernel)) rfl rfl <|
  bb_lift (fun _ => q_iconst (n := 4) (zd (i := .iconst (4)) (n := 1) (by decide +kernel)) rfl) <|
  bb_lift (fun _ => q_iconst (n := 0) (zd (i := .iconst (0)) (n := 1) (by decide +kernel)) rfl) <|
  bb_callVI (idx := 321) (k := 292) (ci := 9) (N := n_X9_lawTells) (As := [.int 4, .int 0]) (st := []) (zd (i := .invokevirtual 321) (n := 3) (by decide +kernel)) to_X9_lawTells g1469 g1471 g73 (Nat.le_of_ble_eq_true rfl) (by decide +kernel) (by decide +kernel) (by decide +kernel) rfl rfl rfl hc kk
theorem w_X9_interestOf_32 {Q : qQ} {I : qMI} {L : qML} {R : qMR} {a1 : Int32} {a2 : Int32} {a3 : Int32} {s0 : Int32} {P : Int32 → qMI → qML → Prop} (hc : wkI l G d n_X9_held [.int s0, .int 0, .int 99] I L R P) (kk : ∀ y I' L', P y I' L' → wkB l G (d + 1) n_X9_interestOf Q 38 [.ref 292, .int a1, .int a2, .int a3] [.int y] I' L' R) : wkB l G (d + 1) n_X9_interestOf Q 32 [.ref 292, .int a1, .int a2, .int a3] [.int s0] I L R :=
  bb_lift (fun _ => q_iconst (n := 0) (zd (i := .iconst (0)) (n := 1) (by decide +kernel)) rfl) <|
  bb_lift (fun _ => q_bipush (n := 99) (zd (i := .bipush (99)) (n := 2) (by decide +kernel)) rfl) <|
  bb_callSI (idx := 324) (N := n_X9_held) (As := [.int s0, .int 0, .int 99]) (st := []) (zd (i := .invokestatic 324) (n := 3) (by decide +kernel)) to_X9_held g1477 g1478 (Nat.le_of_ble_eq_true rfl) rfl rfl hc kk
theorem w_X9_interestOf_38 {Q : qQ} {I : qMI} {L : qML} {R : qMR} {a1 : Int32} {a2 : Int32} {a3 : Int32} {s0 : Int32} (hQ : Q (some (.int s0)) 336 I L R) : wkB l G (d + 1) n_X9_interestOf Q 38 [.ref 292, .int a1, .int a2, .int a3] [.int s0] I L R :=
  (fun lv hl => q_iret (zd (i := .ireturn) (n := 1) (by decide +kernel)) rfl rfl (Nat.le_refl _) (Nat.le_refl _) hQ)
theorem w_X9_grows_0 {Q : qQ} {I : qMI} {L : qML} {R : qMR} {a1 : Int32} {a2 : Int32} {P : Int32 → qMI → qML → Prop} (hc : wkI l G d n_X9_interestOf [.ref 292, .int a1, .int a2] I L R P) (kk : ∀ y I' L', P y I' L' → wkB l G (d + 1) n_X9_grows Q 8 [.ref 292, .int a1, .int a2] [.int y, .int a1, .int a1] I' L' R) : wkB l G (d + 1) n_X9_grows Q 0 [.ref 292, .int a1, .int a2] [] I L R :=
  bb_iload_n (n := 1) (i := 1) (zd (i := .iload_n 1) (n := 1) (by decide +kernel)) rfl rfl <|
  bb_iload_n (n := 1) (i := 1) (zd (i := .iload_n 1) (n := 1) (by decide +kernel)) rfl rfl <|
  bb_aload_n (n := 0) (i := 0) (zd (i := .aload_n 0) (n := 1) (by decide +kernel)) rfl rfl <|
  bb_iload_n (n := 1) (i := 1) (zd (i := .iload_n 1) (n := 1) (by decide +kernel)) rfl rfl <|
  bb_iload_n (n := 2) (i := 2) (zd (i := .iload_n 2) (n := 1) (by decide +kernel)) rfl rfl <|
  bb_callVI (idx := 348) (k := 292) (ci := 9) (N := n_X9_interestOf) (As := [.int a1, .int a2]) (st := [.int a1, .int a1]) (zd (i := .invokevirtual 348) (n := 3) (by decide +kernel)) to_X9_interestOf g1518 g1520 g80 (Nat.le_of_ble_eq_true rfl) (by decide +kernel) (by decide +kernel) (by decide +kernel) rfl rfl rfl hc kk
theorem w_X9_grows_8 {Q : qQ} {I : qMI} {L : qML} {R : qMR} {a1 : Int32} {a2 : Int32} {s0 : Int32} {s1 : Int32} {s2 : Int32} {P : Int32 → qMI → qML → Prop} (hc : wkI l G d n_X9_held [.int (s0 + ((s1 * s2) / 100)), .int 0, .int 99999] I L R P) (kk : ∀ y I' L', P y I' L' → wkB l G (d + 1) n_X9_grows Q 20 [.ref 292, .int a1, .int a2] [.int y] I' L' R) : wkB l G (d + 1) n_X9_grows Q 8 [.ref 292, .int a1, .int a2] [.int s2, .int s1, .int s0] I L R :=
  bb_lift (fun _ => q_imul (zd (i := .imul) (n := 1) (by decide +kernel))) <|
  bb_lift (fun _ => q_bipush (n := 100) (zd (i := .bipush (100)) (n := 2) (by decide +kernel)) rfl) <|
  bb_lift (fun _ => q_idiv (zd (i := .idiv) (n := 1) (by decide +kernel)) (by decide)) <|
  bb_lift (fun _ => q_iadd (zd (i := .iadd) (n := 1) (by decide +kernel))) <|
  bb_lift (fun _ => q_iconst (n := 0) (zd (i := .iconst (0)) (n := 1) (by decide +kernel)) rfl) <|
  bb_lift (fun _ => q_ldcw (n := 351) (zd (i := .ldc_w 351) (n := 3) (by decide +kernel)) g1534) <|
  bb_callSI (idx := 324) (N := n_X9_held) (As := [.int (s0 + ((s1 * s2) / 100)), .int 0, .int 99999]) (st := []) (zd (i := .invokestatic 324) (n := 3) (by decide +kernel)) to_X9_held g1477 g1478 (Nat.le_of_ble_eq_true rfl) rfl rfl hc kk
theorem w_X9_grows_20 {Q : qQ} {I : qMI} {L : qML} {R : qMR} {a1 : Int32} {a2 : Int32} {s0 : Int32} (hQ : Q (some (.int s0)) 336 I L R) : wkB l G (d + 1) n_X9_grows Q 20 [.ref 292, .int a1, .int a2] [.int s0] I L R :=
  (fun lv hl => q_iret (zd (i := .ireturn) (n := 1) (by decide +kernel)) rfl rfl (Nat.le_refl _) (Nat.le_refl _) hQ)
theorem w_X9_loanGoes_0 {Q : qQ} {I : qMI} {L : qML} {R : qMR} (hR : wkR R) {a1 : Int32} {a2 : Int32} {a3 : Int32} (h1 : vp_in 96 97) (kt : ¬ a3 = 0 → wkB l G (d + 1) n_X9_loanGoes Q 116 [.ref 292, .int a1, .int a2, .int a3, .int ((6 * a1) + a2), .int (I 324 (96 : Int32).toNatClampNeg), wkU] [] I L R) (kf : a3 = 0 → wkB l G (d + 1) n_X9_loanGoes Q 21 [.ref 292, .int a1, .int a2, .int a3, .int ((6 * a1) + a2), .int (I 324 (96 : Int32).toNatClampNeg), wkU] [] I L R) : wkB l G (d + 1) n_X9_loanGoes Q 0 [.ref 292, .int a1, .int a2, .int a3, wkU, wkU, wkU] [] I L R :=
  bb_lift (fun _ => q_bipush (n := 6) (zd (i := .bipush (6)) (n := 2) (by decide +kernel)) rfl) <|
  bb_iload_n (n := 1) (i := 1) (zd (i := .iload_n 1) (n := 1) (by decide +kernel)) rfl rfl <|
  bb_lift (fun _ => q_imul (zd (i := .imul) (n := 1) (by decide +kernel))) <|
  bb_iload_n (n := 2) (i := 2) (zd (i := .iload_n 2) (n := 1) (by decide +kernel)) rfl rfl <|
  bb_lift (fun _ => q_iadd (zd (i := .iadd) (n := 1) (by decide +kernel))) <|
  bb_istore (i := 4) (zd (i := .istore 4) (n := 2) (by decide +kernel)) (by decide +kernel) (wkNl_i rfl) <|
  bb_aload_n (n := 0) (i := 0) (zd (i := .aload_n 0) (n := 1) (by decide +kernel)) rfl rfl <|
  bb_getr (k := 292) (ci := 9) (j := 49) (idx := 113) (a := 324) (zd (i := .getfield 113) (n := 3) (by decide +kernel)) (by decide +kernel) (by decide +kernel) (by decide +kernel) (by decide +kernel) rfl g1177 (hR 49 (by decide)) <|
  bb_lift (fun _ => q_bipush (n := 96) (zd (i := .bipush (96)) (n := 2) (by decide +kernel)) rfl) <|
  bb_lift (fun _ => q_iald (k := 324) (zd (i := .iaload) (n := 1) (by decide +kernel)) (by decide +kernel) (by decide +kernel) h1) <|
  bb_istore (i := 5) (zd (i := .istore 5) (n := 2) (by decide +kernel)) (by decide +kernel) (wkNl_i rfl) <|
  bb_iload_n (n := 3) (i := 3) (zd (i := .iload_n 3) (n := 1) (by decide +kernel)) rfl rfl <|
  (fun lv hl => q_if_ne (off := 98) (tgt := 116) (zd (i := .ifCond .ne (98)) (n := 3) (by decide +kernel)) (by decide) (fun h => (kt h) lv hl) (fun h => (kf h) lv hl))
theorem w_X9_loanGoes_21 {Q : qQ} {I : qMI} {L : qML} {R : qMR} (hR : wkR R) {a1 : Int32} {a2 : Int32} {a3 : Int32} {a4 : Int32} {a5 : Int32} (h1 : vp_in a1 97) {P : Int32 → qMI → qML → Prop} (hc : wkI l G d n_X9_sees [.ref 292, .int (I 324 a1.toNatClampNeg), .int a2, .int a5] I L R P) (kk : ∀ y I' L', P y I' L' → wkB l G (d + 1) n_X9_loanGoes Q 34 [.ref 292, .int a1, .int a2, .int a3, .int a4, .int a5, wkU] [.int y] I' L' R) : wkB l G (d + 1) n_X9_loanGoes Q 21 [.ref 292, .int a1, .int a2, .int a3, .int a4, .int a5, wkU] [] I L R :=
  bb_aload_n (n := 0) (i := 0) (zd (i := .aload_n 0) (n := 1) (by decide +kernel)) rfl rfl <|
  bb_aload_n (n := 0) (i := 0) (zd (i := .aload_n 0) (n := 1) (by decide +kernel)) rfl rfl <|
  bb_getr (k := 292) (ci := 9) (j := 49) (idx := 113) (a := 324) (zd (i := .getfield 113) (n := 3) (by decide +kernel)) (by decide +kernel) (by decide +kernel) (by decide +kernel) (by decide +kernel) rfl g1177 (hR 49 (by decide)) <|
  bb_iload_n (n := 1) (i := 1) (zd (i := .iload_n 1) (n := 1) (by decide +kernel)) rfl rfl <|
  bb_lift (fun _ => q_iald (k := 324) (zd (i := .iaload) (n := 1) (by decide +kernel)) (by decide +kernel) (by decide +kernel) h1) <|
  bb_iload_n (n := 2) (i := 2) (zd (i := .iload_n 2) (n := 1) (by decide +kernel)) rfl rfl <|
  bb_iload (i := 5) (zd (i := .iload 5) (n := 2) (by decide +kernel)) rfl <|
  bb_callVI (idx := 352) (k := 292) (ci := 9) (N := n_X9_sees) (As := [.int (I 324 a1.toNatClampNeg), .int a2, .int a5]) (st := []) (zd (i := .invokevirtual 352) (n := 3) (by decide +kernel)) to_X9_sees g1449 g1451 g68 (Nat.le_of_ble_eq_true rfl) (by decide +kernel) (by decide +kernel) (by decide +kernel) rfl rfl rfl hc kk
theorem w_X9_loanGoes_34 {Q : qQ} {I : qMI} {L : qML} {R : qMR} {a1 : Int32} {a2 : Int32} {a3 : Int32} {a4 : Int32} {a5 : Int32} {s0 : Int32} (kt : s0 = 0 → wkB l G (d + 1) n_X9_loanGoes Q 116 [.ref 292, .int a1, .int a2, .int a3, .int a4, .int a5, wkU] [] I L R) (kf : ¬ s0 = 0 → wkB l G (d + 1) n_X9_loanGoes Q 37 [.ref 292, .int a1, .int a2, .int a3, .int a4, .int a5, wkU] [] I L R) : wkB l G (d + 1) n_X9_loanGoes Q 34 [.ref 292, .int a1, .int a2, .int a3, .int a4, .int a5, wkU] [.int s0] I L R :=
  (fun lv hl => q_if_eq (off := 82) (tgt := 116) (zd (i := .ifCond .eq (82)) (n := 3) (by decide +kernel)) (by decide) (fun h => (kt h) lv hl) (fun h => (kf h) lv hl))
theorem w_X9_loanGoes_37 {Q : qQ} {I : qMI} {L : qML} {R : qMR} (hR : wkR R) {a1 : Int32} {a2 : Int32} {a3 : Int32} {a4 : Int32} {a5 : Int32} (h1 : vp_in a1 97) (h2 : vp_in (24 + a4) 97) {P : Int32 → qMI → qML → Prop} (hc : wkI l G d n_X9_rentOf [.ref 292, .int (I 324 a1.toNatClampNeg), .int a2, .int (I 324 (24 + a4).toNatClampNeg), .int a5] I L R P) (kk : ∀ y I' L', P y I' L' → wkB l G (d + 1) n_X9_loanGoes Q 60 [.ref 292, .int a1, .int a2, .int a3, .int a4, .int a5, wkU] [.int y] I' L' R) : wkB l G (d + 1) n_X9_loanGoes Q 37 [.ref 292, .int a1, .int a2, .int a3, .int a4, .int a5, wkU] [] I L R :=
  bb_aload_n (n := 0) (i := 0) (zd (i := .aload_n 0) (n := 1) (by decide +kernel)) rfl rfl <|
  bb_aload_n (n := 0) (i := 0) (zd (i := .aload_n 0) (n := 1) (by decide +kernel)) rfl rfl <|
  bb_getr (k := 292) (ci := 9) (j := 49) (idx := 113) (a := 324) (zd (i := .getfield 113) (n := 3) (by decide +kernel)) (by decide +kernel) (by decide +kernel) (by decide +kernel) (by decide +kernel) rfl g1177 (hR 49 (by decide)) <|
  bb_iload_n (n := 1) (i := 1) (zd (i := .iload_n 1) (n := 1) (by decide +kernel)) rfl rfl <|
  bb_lift (fun _ => q_iald (k := 324) (zd (i := .iaload) (n := 1) (by decide +kernel)) (by decide +kernel) (by decide +kernel) h1) <|
  bb_iload_n (n := 2) (i := 2) (zd (i := .iload_n 2) (n := 1) (by decide +kernel)) rfl rfl <|
  bb_aload_n (n := 0) (i := 0) (zd (i := .aload_n 0) (n := 1) (by decide +kernel)) rfl rfl <|
  bb_getr (k := 292) (ci := 9) (j := 49) (idx := 113) (a := 324) (zd (i := .getfield 113) (n := 3) (by decide +kernel)) (by decide +kernel) (by decide +kernel) (by decide +kernel) (by decide +kernel) rfl g1177 (hR 49 (by decide)) <|
  bb_lift (fun _ => q_bipush (n := 24) (zd (i := .bipush (24)) (n := 2) (by decide +kernel)) rfl) <|
  bb_iload (i := 4) (zd (i := .iload 4) (n := 2) (by decide +kernel)) rfl <|
  bb_lift (fun _ => q_iadd (zd (i := .iadd) (n := 1) (by decide +kernel))) <|
  bb_lift (fun _ => q_iald (k := 324) (zd (i := .iaload) (n := 1) (by decide +kernel)) (by decide +kernel) (by decide +kernel) h2) <|
  bb_iload (i := 5) (zd (i := .iload 5) (n := 2) (by decide +kernel)) rfl <|
  bb_callVI (idx := 355) (k := 292) (ci := 9) (N := n_X9_rentOf) (As := [.int (I 324 a1.toNatClampNeg), .int a2, .int (I 324 (24 + a4).toNatClampNeg), .int a5]) (st := []) (zd (i := .invokevirtual 355) (n := 3) (by decide +kernel)) to_X9_rentOf g1514 g1516 g79 (Nat.le_of_ble_eq_true rfl) (by decide +kernel) (by decide +kernel) (by decide +kernel) rfl rfl rfl hc kk
theorem w_X9_loanGoes_60 {Q : qQ} {I : qMI} {L : qML} {R : qMR} (hR : wkR R) {a1 : Int32} {a2 : Int32} {a3 : Int32} {a4 : Int32} {a5 : Int32} {s0 : Int32} (h1 : vp_in (6 + a1) 97) {P : Int32 → qMI → qML → Prop} (hc : wkI l G d n_X9_held [.int ((I 324 (6 + a1).toNatClampNeg) + s0), .int 0, .int 99999] I L R P) (kk : ∀ y I' L', P y I' L' → wkB l G (d + 1) n_X9_loanGoes Q 89 [.ref 292, .int a1, .int a2, .int a3, .int a4, .int a5, .int s0] [.int y, .int (6 + a1), .ref 324] I' L' R) : wkB l G (d + 1) n_X9_loanGoes Q 60 [.ref 292, .int a1, .int a2, .int a3, .int a4, .int a5, wkU] [.int s0] I L R :=
  bb_istore (i := 6) (zd (i := .istore 6) (n := 2) (by decide +kernel)) (by decide +kernel) (wkNl_i rfl) <|
  bb_aload_n (n := 0) (i := 0) (zd (i := .aload_n 0) (n := 1) (by decide +kernel)) rfl rfl <|
  bb_getr (k := 292) (ci := 9) (j := 49) (idx := 113) (a := 324) (zd (i := .getfield 113) (n := 3) (by decide +kernel)) (by decide +kernel) (by decide +kernel) (by decide +kernel) (by decide +kernel) rfl g1177 (hR 49 (by decide)) <|
  bb_lift (fun _ => q_bipush (n := 6) (zd (i := .bipush (6)) (n := 2) (by decide +kernel)) rfl) <|
  bb_iload_n (n := 1) (i := 1) (zd (i := .iload_n 1) (n := 1) (by decide +kernel)) rfl rfl <|
  bb_lift (fun _ => q_iadd (zd (i := .iadd) (n := 1) (by decide +kernel))) <|
  bb_aload_n (n := 0) (i := 0) (zd (i := .aload_n 0) (n := 1) (by decide +kernel)) rfl rfl <|
  bb_getr (k := 292) (ci := 9) (j := 49) (idx := 113) (a := 324) (zd (i := .getfield 113) (n := 3) (by decide +kernel)) (by decide +kernel) (by decide +kernel) (by decide +kernel) (by decide +kernel) rfl g1177 (hR 49 (by decide)) <|
  bb_lift (fun _ => q_bipush (n := 6) (zd (i := .bipush (6)) (n := 2) (by decide +kernel)) rfl) <|
  bb_iload_n (n := 1) (i := 1) (zd (i := .iload_n 1) (n := 1) (by decide +kernel)) rfl rfl <|
  bb_lift (fun _ => q_iadd (zd (i := .iadd) (n := 1) (by decide +kernel))) <|
  bb_lift (fun _ => q_iald (k := 324) (zd (i := .iaload) (n := 1) (by decide +kernel)) (by decide +kernel) (by decide +kernel) h1) <|
  bb_iload (i := 6) (zd (i := .iload 6) (n := 2) (by decide +kernel)) rfl <|
  bb_lift (fun _ => q_iadd (zd (i := .iadd) (n := 1) (by decide +kernel))) <|
  bb_lift (fun _ => q_iconst (n := 0) (zd (i := .iconst (0)) (n := 1) (by decide +kernel)) rfl) <|
  bb_lift (fun _ => q_ldcw (n := 351) (zd (i := .ldc_w 351) (n := 3) (by decide +kernel)) g1534) <|
  bb_callSI (idx := 324) (N := n_X9_held) (As := [.int ((I 324 (6 + a1).toNatClampNeg) + s0), .int 0, .int 99999]) (st := [.int (6 + a1), .ref 324]) (zd (i := .invokestatic 324) (n := 3) (by decide +kernel)) to_X9_held g1477 g1478 (Nat.le_of_ble_eq_true rfl) rfl rfl hc kk
theorem w_X9_loanGoes_89 {Q : qQ} {I : qMI} {L : qML} {R : qMR} (hR : wkR R) {a1 : Int32} {a2 : Int32} {a3 : Int32} {a4 : Int32} {a5 : Int32} {a6 : Int32} {s1 : Int32} {s2 : Int32} (h1 : vp_in s1 97) (h2 : vp_in (18 + a1) 97) (h3 : vp_in (18 + a1) 97) (h4 : vp_in (60 + a4) 97) (hQ : Q none 336 (qUp (qUp (qUp I 324 s1.toNatClampNeg s2) 324 (18 + a1).toNatClampNeg (((qUp I 324 s1.toNatClampNeg s2) 324 (18 + a1).toNatClampNeg) + a6)) 324 (60 + a4).toNatClampNeg 0) L R) : wkB l G (d + 1) n_X9_loanGoes Q 89 [.ref 292, .int a1, .int a2, .int a3, .int a4, .int a5, .int a6] [.int s2, .int s1, .ref 324] I L R :=
  bb_lift (fun _ => q_iast (k := 324) (zd (i := .iastore) (n := 1) (by decide +kernel)) (by decide +kernel) (by decide +kernel) h1) <|
  bb_aload_n (n := 0) (i := 0) (zd (i := .aload_n 0) (n := 1) (by decide +kernel)) rfl rfl <|
  bb_getr (k := 292) (ci := 9) (j := 49) (idx := 113) (a := 324) (zd (i := .getfield 113) (n := 3) (by decide +kernel)) (by decide +kernel) (by decide +kernel) (by decide +kernel) (by decide +kernel) rfl g1177 (hR 49 (by decide)) <|
  bb_lift (fun _ => q_bipush (n := 18) (zd (i := .bipush (18)) (n := 2) (by decide +kernel)) rfl) <|
  bb_iload_n (n := 1) (i := 1) (zd (i := .iload_n 1) (n := 1) (by decide +kernel)) rfl rfl <|
  bb_lift (fun _ => q_iadd (zd (i := .iadd) (n := 1) (by decide +kernel))) <|
  bb_lift (fun _ => q_dup2 (zd (i := .dup2) (n := 1) (by decide +kernel)) rfl rfl) <|
  bb_lift (fun _ => q_iald (k := 324) (zd (i := .iaload) (n := 1) (by decide +kernel)) (by decide +kernel) (by decide +kernel) h2) <|
  bb_iload (i := 6) (zd (i := .iload 6) (n := 2) (by decide +kernel)) rfl <|
  bb_lift (fun _ => q_iadd (zd (i := .iadd) (n := 1) (by decide +kernel))) <|
  bb_lift (fun _ => q_iast (k := 324) (zd (i := .iastore) (n := 1) (by decide +kernel)) (by decide +kernel) (by decide +kernel) h3) <|
  bb_aload_n (n := 0) (i := 0) (zd (i := .aload_n 0) (n := 1) (by decide +kernel)) rfl rfl <|
  bb_getr (k := 292) (ci := 9) (j := 49) (idx := 113) (a := 324) (zd (i := .getfield 113) (n := 3) (by decide +kernel)) (by decide +kernel) (by decide +kernel) (by decide +kernel) (by decide +kernel) rfl g1177 (hR 49 (by decide)) <|
  bb_lift (fun _ => q_bipush (n := 60) (zd (i := .bipush (60)) (n := 2) (by decide +kernel)) rfl) <|
  bb_iload (i := 4) (zd (i := .iload 4) (n := 2) (by decide +kernel)) rfl <|
  bb_lift (fun _ => q_iadd (zd (i := .iadd) (n := 1) (by decide +kernel))) <|
  bb_lift (fun _ => q_iconst (n := 0) (zd (i := .iconst (0)) (n := 1) (by decide +kernel)) rfl) <|
  bb_lift (fun _ => q_iast (k := 324) (zd (i := .iastore) (n := 1) (by decide +kernel)) (by decide +kernel) (by decide +kernel) h4) <|
  (fun lv hl => q_vret (zd (i := .return_) (n := 1) (by decide +kernel)) rfl (Nat.le_refl _) (Nat.le_refl _) hQ)
theorem w_X9_loanGoes_116 {Q : qQ} {I : qMI} {L : qML} {R : qMR} (hR : wkR R) {a1 : Int32} {a2 : Int32} {a3 : Int32} {a4 : Int32} {a5 : Int32} (h1 : vp_in (60 + a4) 97) (h2 : vp_in (60 + a4) 97) (h3 : vp_in (60 + a4) 97) (h4 : vp_in ((qUp I 324 (60 + a4).toNatClampNeg ((I 324 (60 + a4).toNatClampNeg) + 1)) 292 18) 2) (kt : ((qUp I 324 (60 + a4).toNatClampNeg ((I 324 (60 + a4).toNatClampNeg) + 1)) 307 ((qUp I 324 (60 + a4).toNatClampNeg ((I 324 (60 + a4).toNatClampNeg) + 1)) 292 18).toNatClampNeg) ≤ ((qUp I 324 (60 + a4).toNatClampNeg ((I 324 (60 + a4).toNatClampNeg) + 1)) 324 (60 + a4).toNatClampNeg) → wkB l G (d + 1) n_X9_loanGoes Q 179 [.ref 292, .int a1, .int a2, .int a3, .int a4, .int a5, wkU] [] (qUp I 324 (60 + a4).toNatClampNeg ((I 324 (60 + a4).toNatClampNeg) + 1)) L R) (kf : ¬ ((qUp I 324 (60 + a4).toNatClampNeg ((I 324 (60 + a4).toNatClampNeg) + 1)) 307 ((qUp I 324 (60 + a4).toNatClampNeg ((I 324 (60 + a4).toNatClampNeg) + 1)) 292 18).toNatClampNeg) ≤ ((qUp I 324 (60 + a4).toNatClampNeg ((I 324 (60 + a4).toNatClampNeg) + 1)) 324 (60 + a4).toNatClampNeg) → wkB l G (d + 1) n_X9_loanGoes Q 152 [.ref 292, .int a1, .int a2, .int a3, .int a4, .int a5, wkU] [] (qUp I 324 (60 + a4).toNatClampNeg ((I 324 (60 + a4).toNatClampNeg) + 1)) L R) : wkB l G (d + 1) n_X9_loanGoes Q 116 [.ref 292, .int a1, .int a2, .int a3, .int a4, .int a5, wkU] [] I L R :=
  bb_aload_n (n := 0) (i := 0) (zd (i := .aload_n 0) (n := 1) (by decide +kernel)) rfl rfl <|
  bb_getr (k := 292) (ci := 9) (j := 49) (idx := 113) (a := 324) (zd (i := .getfield 113) (n := 3) (by decide +kernel)) (by decide +kernel) (by decide +kernel) (by decide +kernel) (by decide +kernel) rfl g1177 (hR 49 (by decide)) <|
  bb_lift (fun _ => q_bipush (n := 60) (zd (i := .bipush (60)) (n := 2) (by decide +kernel)) rfl) <|
  bb_iload (i := 4) (zd (i := .iload 4) (n := 2) (by decide +kernel)) rfl <|
  bb_lift (fun _ => q_iadd (zd (i := .iadd) (n := 1) (by decide +kernel))) <|
  bb_lift (fun _ => q_dup2 (zd (i := .dup2) (n := 1) (by decide +kernel)) rfl rfl) <|
  bb_lift (fun _ => q_iald (k := 324) (zd (i := .iaload) (n := 1) (by decide +kernel)) (by decide +kernel) (by decide +kernel) h1) <|
  bb_lift (fun _ => q_iconst (n := 1) (zd (i := .iconst (1)) (n := 1) (by decide +kernel)) rfl) <|
  bb_lift (fun _ => q_iadd (zd (i := .iadd) (n := 1) (by decide +kernel))) <|
  bb_lift (fun _ => q_iast (k := 324) (zd (i := .iastore) (n := 1) (by decide +kernel)) (by decide +kernel) (by decide +kernel) h2) <|
  bb_aload_n (n := 0) (i := 0) (zd (i := .aload_n 0) (n := 1) (by decide +kernel)) rfl rfl <|
  bb_getr (k := 292) (ci := 9) (j := 49) (idx := 113) (a := 324) (zd (i := .getfield 113) (n := 3) (by decide +kernel)) (by decide +kernel) (by decide +kernel) (by decide +kernel) (by decide +kernel) rfl g1177 (hR 49 (by decide)) <|
  bb_lift (fun _ => q_bipush (n := 60) (zd (i := .bipush (60)) (n := 2) (by decide +kernel)) rfl) <|
  bb_iload (i := 4) (zd (i := .iload 4) (n := 2) (by decide +kernel)) rfl <|
  bb_lift (fun _ => q_iadd (zd (i := .iadd) (n := 1) (by decide +kernel))) <|
  bb_lift (fun _ => q_iald (k := 324) (zd (i := .iaload) (n := 1) (by decide +kernel)) (by decide +kernel) (by decide +kernel) h3) <|
  bb_aload_n (n := 0) (i := 0) (zd (i := .aload_n 0) (n := 1) (by decide +kernel)) rfl rfl <|
  bb_getr (k := 292) (ci := 9) (j := 28) (idx := 61) (a := 307) (zd (i := .getfield 61) (n := 3) (by decide +kernel)) (by decide +kernel) (by decide +kernel) (by decide +kernel) (by decide +kernel) rfl g1156 (hR 28 (by decide)) <|
  bb_aload_n (n := 0) (i := 0) (zd (i := .aload_n 0) (n := 1) (by decide +kernel)) rfl rfl <|
  bb_geti (k := 292) (ci := 9) (j := 18) (idx := 230) (zd (i := .getfield 230) (n := 3) (by decide +kernel)) (by decide +kernel) (by decide +kernel) (by decide +kernel) (by decide +kernel) rfl g1146 <|
  bb_lift (fun _ => q_iald (k := 307) (zd (i := .iaload) (n := 1) (by decide +kernel)) (by decide +kernel) (by decide +kernel) h4) <|
  (fun lv hl => q_icmp_ge (off := 30) (tgt := 179) (zd (i := .if_icmp .ge (30)) (n := 3) (by decide +kernel)) (by decide) (fun h => (kt h) lv hl) (fun h => (kf h) lv hl))
theorem w_X9_loanGoes_152 {Q : qQ} {I : qMI} {L : qML} {R : qMR} (hR : wkR R) {a1 : Int32} {a2 : Int32} {a3 : Int32} {a4 : Int32} {a5 : Int32} (h1 : vp_in (24 + a4) 97) {P : Int32 → qMI → qML → Prop} (hc : wkI l G d n_X9_grows [.ref 292, .int (I 324 (24 + a4).toNatClampNeg), .int a5] I L R P) (kk : ∀ y I' L', P y I' L' → wkB l G (d + 1) n_X9_loanGoes Q 177 [.ref 292, .int a1, .int a2, .int a3, .int a4, .int a5, wkU] [.int y, .int (24 + a4), .ref 324] I' L' R) : wkB l G (d + 1) n_X9_loanGoes Q 152 [.ref 292, .int a1, .int a2, .int a3, .int a4, .int a5, wkU] [] I L R :=
  bb_aload_n (n := 0) (i := 0) (zd (i := .aload_n 0) (n := 1) (by decide +kernel)) rfl rfl <|
  bb_getr (k := 292) (ci := 9) (j := 49) (idx := 113) (a := 324) (zd (i := .getfield 113) (n := 3) (by decide +kernel)) (by decide +kernel) (by decide +kernel) (by decide +kernel) (by decide +kernel) rfl g1177 (hR 49 (by decide)) <|
  bb_lift (fun _ => q_bipush (n := 24) (zd (i := .bipush (24)) (n := 2) (by decide +kernel)) rfl) <|
  bb_iload (i := 4) (zd (i := .iload 4) (n := 2) (by decide +kernel)) rfl <|
  bb_lift (fun _ => q_iadd (zd (i := .iadd) (n := 1) (by decide +kernel))) <|
  bb_aload_n (n := 0) (i := 0) (zd (i := .aload_n 0) (n := 1) (by decide +kernel)) rfl rfl <|
  bb_aload_n (n := 0) (i := 0) (zd (i := .aload_n 0) (n := 1) (by decide +kernel)) rfl rfl <|
  bb_getr (k := 292) (ci := 9) (j := 49) (idx := 113) (a := 324) (zd (i := .getfield 113) (n := 3) (by decide +kernel)) (by decide +kernel) (by decide +kernel) (by decide +kernel) (by decide +kernel) rfl g1177 (hR 49 (by decide)) <|
  bb_lift (fun _ => q_bipush (n := 24) (zd (i := .bipush (24)) (n := 2) (by decide +kernel)) rfl) <|
  bb_iload (i := 4) (zd (i := .iload 4) (n := 2) (by decide +kernel)) rfl <|
  bb_lift (fun _ => q_iadd (zd (i := .iadd) (n := 1) (by decide +kernel))) <|
  bb_lift (fun _ => q_iald (k := 324) (zd (i := .iaload) (n := 1) (by decide +kernel)) (by decide +kernel) (by decide +kernel) h1) <|
  bb_iload (i := 5) (zd (i := .iload 5) (n := 2) (by decide +kernel)) rfl <|
  bb_callVI (idx := 358) (k := 292) (ci := 9) (N := n_X9_grows) (As := [.int (I 324 (24 + a4).toNatClampNeg), .int a5]) (st := [.int (24 + a4), .ref 324]) (zd (i := .invokevirtual 358) (n := 3) (by decide +kernel)) to_X9_grows g1566 g1568 g86 (Nat.le_of_ble_eq_true rfl) (by decide +kernel) (by decide +kernel) (by decide +kernel) rfl rfl rfl hc kk
theorem w_X9_loanGoes_177 {Q : qQ} {I : qMI} {L : qML} {R : qMR} {a1 : Int32} {a2 : Int32} {a3 : Int32} {a4 : Int32} {a5 : Int32} {s1 : Int32} {s2 : Int32} (h1 : vp_in s1 97) (hQ : Q none 336 (qUp I 324 s1.toNatClampNeg s2) L R) : wkB l G (d + 1) n_X9_loanGoes Q 177 [.ref 292, .int a1, .int a2, .int a3, .int a4, .int a5, wkU] [.int s2, .int s1, .ref 324] I L R :=
  bb_lift (fun _ => q_iast (k := 324) (zd (i := .iastore) (n := 1) (by decide +kernel)) (by decide +kernel) (by decide +kernel) h1) <|
  (fun lv hl => q_vret (zd (i := .return_) (n := 1) (by decide +kernel)) rfl (Nat.le_refl _) (Nat.le_refl _) hQ)
theorem w_X9_loanGoes_179 {Q : qQ} {I : qMI} {L : qML} {R : qMR} (hR : wkR R) {a1 : Int32} {a2 : Int32} {a3 : Int32} {a4 : Int32} {a5 : Int32} (h1 : vp_in (24 + a4) 97) (h2 : vp_in (60 + a4) 97) (h3 : vp_in (12 + a1) 97) (h4 : vp_in (12 + a1) 97) (hQ : Q none 336 (qUp (qUp (qUp I 324 (24 + a4).toNatClampNeg 0) 324 (60 + a4).toNatClampNeg 0) 324 (12 + a1).toNatClampNeg (((qUp (qUp I 324 (24 + a4).toNatClampNeg 0) 324 (60 + a4).toNatClampNeg 0) 324 (12 + a1).toNatClampNeg) + 1)) L R) : wkB l G (d + 1) n_X9_loanGoes Q 179 [.ref 292, .int a1, .int a2, .int a3, .int a4, .int a5, wkU] [] I L R :=
  bb_aload_n (n := 0) (i := 0) (zd (i := .aload_n 0) (n := 1) (by decide +kernel)) rfl rfl <|
  bb_getr (k := 292) (ci := 9) (j := 49) (idx := 113) (a := 324) (zd (i := .getfield 113) (n := 3) (by decide +kernel)) (by decide +kernel) (by decide +kernel) (by decide +kernel) (by decide +kernel) rfl g1177 (hR 49 (by decide)) <|
  bb_lift (fun _ => q_bipush (n := 24) (zd (i := .bipush (24)) (n := 2) (by decide +kernel)) rfl) <|
  bb_iload (i := 4) (zd (i := .iload 4) (n := 2) (by decide +kernel)) rfl <|
  bb_lift (fun _ => q_iadd (zd (i := .iadd) (n := 1) (by decide +kernel))) <|
  bb_lift (fun _ => q_iconst (n := 0) (zd (i := .iconst (0)) (n := 1) (by decide +kernel)) rfl) <|
  bb_lift (fun _ => q_iast (k := 324) (zd (i := .iastore) (n := 1) (by decide +kernel)) (by decide +kernel) (by decide +kernel) h1) <|
  bb_aload_n (n := 0) (i := 0) (zd (i := .aload_n 0) (n := 1) (by decide +kernel)) rfl rfl <|
  bb_getr (k := 292) (ci := 9) (j := 49) (idx := 113) (a := 324) (zd (i := .getfield 113) (n := 3) (by decide +kernel)) (by decide +kernel) (by decide +kernel) (by decide +kernel) (by decide +kernel) rfl g1177 (hR 49 (by decide)) <|
  bb_lift (fun _ => q_bipush (n := 60) (zd (i := .bipush (60)) (n := 2) (by decide +kernel)) rfl) <|
  bb_iload (i := 4) (zd (i := .iload 4) (n := 2) (by decide +kernel)) rfl <|
  bb_lift (fun _ => q_iadd (zd (i := .iadd) (n := 1) (by decide +kernel))) <|
  bb_lift (fun _ => q_iconst (n := 0) (zd (i := .iconst (0)) (n := 1) (by decide +kernel)) rfl) <|
  bb_lift (fun _ => q_iast (k := 324) (zd (i := .iastore) (n := 1) (by decide +kernel)) (by decide +kernel) (by decide +kernel) h2) <|
  bb_aload_n (n := 0) (i := 0) (zd (i := .aload_n 0) (n := 1) (by decide +kernel)) rfl rfl <|
  bb_getr (k := 292) (ci := 9) (j := 49) (idx := 113) (a := 324) (zd (i := .getfield 113) (n := 3) (by decide +kernel)) (by decide +kernel) (by decide +kernel) (by decide +kernel) (by decide +kernel) rfl g1177 (hR 49 (by decide)) <|
  bb_lift (fun _ => q_bipush (n := 12) (zd (i := .bipush (12)) (n := 2) (by decide +kernel)) rfl) <|
  bb_iload_n (n := 1) (i := 1) (zd (i := .iload_n 1) (n := 1) (by decide +kernel)) rfl rfl <|
  bb_lift (fun _ => q_iadd (zd (i := .iadd) (n := 1) (by decide +kernel))) <|
  bb_lift (fun _ => q_dup2 (zd (i := .dup2) (n := 1) (by decide +kernel)) rfl rfl) <|
  bb_lift (fun _ => q_iald (k := 324) (zd (i := .iaload) (n := 1) (by decide +kernel)) (by decide +kernel) (by decide +kernel) h3) <|
  bb_lift (fun _ => q_iconst (n := 1) (zd (i := .iconst (1)) (n := 1) (by decide +kernel)) rfl) <|
  bb_lift (fun _ => q_iadd (zd (i := .iadd) (n := 1) (by decide +kernel))) <|
  bb_lift (fun _ => q_iast (k := 324) (zd (i := .iastore) (n := 1) (by decide +kernel)) (by decide +kernel) (by decide +kernel) h4) <|
  (fun lv hl => q_vret (zd (i := .return_) (n := 1) (by decide +kernel)) rfl (Nat.le_refl _) (Nat.le_refl _) hQ)
theorem w_X9_hourGoes_0 {Q : qQ} {I : qMI} {L : qML} {R : qMR}  {P : Int32 → qMI → qML → Prop} (hc : wkI l G d n_X9_isWind [.ref 292] I L R P) (kk : ∀ y I' L', P y I' L' → wkB l G (d + 1) n_X9_hourGoes Q 4 [.ref 292, wkU, wkU, wkU] [.int y] I' L' R) : wkB l G (d + 1) n_X9_hourGoes Q 0 [.ref 292, wkU, wkU, wkU] [] I L R :=
  bb_aload_n (n := 0) (i := 0) (zd (i := .aload_n 0) (n := 1) (by decide +kernel)) rfl rfl <|
  bb_callVI (idx := 361) (k := 292) (ci := 9) (N := n_X9_isWind) (As := []) (st := []) (zd (i := .invokevirtual 361) (n := 3) (by decide +kernel)) to_X9_isWind g1554 g1556 g84 (Nat.le_of_ble_eq_true rfl) (by decide +kernel) (by decide +kernel) (by decide +kernel) rfl rfl rfl hc kk
theorem w_X9_hourGoes_4 {Q : qQ} {I : qMI} {L : qML} {R : qMR} {s0 : Int32} (k : wkB l G (d + 1) n_X9_hourGoes Q 7 [.ref 292, .int s0, .int 0, wkU] [] I L R) : wkB l G (d + 1) n_X9_hourGoes Q 4 [.ref 292, wkU, wkU, wkU] [.int s0] I L R :=
  bb_istore_n (n := 1) (i := 1) (zd (i := .istore_n 1) (n := 1) (by decide +kernel)) rfl (by decide +kernel) (wkNl_r rfl) <|
  bb_lift (fun _ => q_iconst (n := 0) (zd (i := .iconst (0)) (n := 1) (by decide +kernel)) rfl) <|
  bb_istore_n (n := 2) (i := 2) (zd (i := .istore_n 2) (n := 1) (by decide +kernel)) rfl (by decide +kernel) (wkNl_i rfl) <|
  k
theorem w_X9_hourGoes_7 {Q : qQ} {I : qMI} {L : qML} {R : qMR} (hR : wkR R) {a1 : Int32} {a2 : Int32} (h1 : vp_in (I 292 18) 2) (kt : (I 304 (I 292 18).toNatClampNeg) ≤ a2 → wkB l G (d + 1) n_X9_hourGoes Q 71 [.ref 292, .int a1, .int a2, wkU] [] I L R) (kf : ¬ (I 304 (I 292 18).toNatClampNeg) ≤ a2 → wkB l G (d + 1) n_X9_hourGoes Q 20 [.ref 292, .int a1, .int a2, wkU] [] I L R) : wkB l G (d + 1) n_X9_hourGoes Q 7 [.ref 292, .int a1, .int a2, wkU] [] I L R :=
  bb_iload_n (n := 2) (i := 2) (zd (i := .iload_n 2) (n := 1) (by decide +kernel)) rfl rfl <|
  bb_aload_n (n := 0) (i := 0) (zd (i := .aload_n 0) (n := 1) (by decide +kernel)) rfl rfl <|
  bb_getr (k := 292) (ci := 9) (j := 25) (idx := 52) (a := 304) (zd (i := .getfield 52) (n := 3) (by decide +kernel)) (by decide +kernel) (by decide +kernel) (by decide +kernel) (by decide +kernel) rfl g1153 (hR 25 (by decide)) <|
  bb_aload_n (n := 0) (i := 0) (zd (i := .aload_n 0) (n := 1) (by decide +kernel)) rfl rfl <|
  bb_geti (k := 292) (ci := 9) (j := 18) (idx := 230) (zd (i := .getfield 230) (n := 3) (by decide +kernel)) (by decide +kernel) (by decide +kernel) (by decide +kernel) (by decide +kernel) rfl g1146 <|
  bb_lift (fun _ => q_iald (k := 304) (zd (i := .iaload) (n := 1) (by decide +kernel)) (by decide +kernel) (by decide +kernel) h1) <|
  (fun lv hl => q_icmp_ge (off := 54) (tgt := 71) (zd (i := .if_icmp .ge (54)) (n := 3) (by decide +kernel)) (by decide) (fun h => (kt h) lv hl) (fun h => (kf h) lv hl))
theorem w_X9_hourGoes_20 {Q : qQ} {I : qMI} {L : qML} {R : qMR} {a1 : Int32} {a2 : Int32} (k : wkB l G (d + 1) n_X9_hourGoes Q 22 [.ref 292, .int a1, .int a2, .int 0] [] I L R) : wkB l G (d + 1) n_X9_hourGoes Q 20 [.ref 292, .int a1, .int a2, wkU] [] I L R :=
  bb_lift (fun _ => q_iconst (n := 0) (zd (i := .iconst (0)) (n := 1) (by decide +kernel)) rfl) <|
  bb_istore_n (n := 3) (i := 3) (zd (i := .istore_n 3) (n := 1) (by decide +kernel)) rfl (by decide +kernel) (wkNl_i rfl) <|
  k
theorem w_X9_hourGoes_22 {Q : qQ} {I : qMI} {L : qML} {R : qMR} (hR : wkR R) {a1 : Int32} {a2 : Int32} {a3 : Int32} (h1 : vp_in (I 292 18) 2) (kt : (I 301 (I 292 18).toNatClampNeg) ≤ a3 → wkB l G (d + 1) n_X9_hourGoes Q 65 [.ref 292, .int a1, .int a2, .int a3] [] I L R) (kf : ¬ (I 301 (I 292 18).toNatClampNeg) ≤ a3 → wkB l G (d + 1) n_X9_hourGoes Q 35 [.ref 292, .int a1, .int a2, .int a3] [] I L R) : wkB l G (d + 1) n_X9_hourGoes Q 22 [.ref 292, .int a1, .int a2, .int a3] [] I L R :=
  bb_iload_n (n := 3) (i := 3) (zd (i := .iload_n 3) (n := 1) (by decide +kernel)) rfl rfl <|
  bb_aload_n (n := 0) (i := 0) (zd (i := .aload_n 0) (n := 1) (by decide +kernel)) rfl rfl <|
  bb_getr (k := 292) (ci := 9) (j := 22) (idx := 43) (a := 301) (zd (i := .getfield 43) (n := 3) (by decide +kernel)) (by decide +kernel) (by decide +kernel) (by decide +kernel) (by decide +kernel) rfl g1150 (hR 22 (by decide)) <|
  bb_aload_n (n := 0) (i := 0) (zd (i := .aload_n 0) (n := 1) (by decide +kernel)) rfl rfl <|
  bb_geti (k := 292) (ci := 9) (j := 18) (idx := 230) (zd (i := .getfield 230) (n := 3) (by decide +kernel)) (by decide +kernel) (by decide +kernel) (by decide +kernel) (by decide +kernel) rfl g1146 <|
  bb_lift (fun _ => q_iald (k := 301) (zd (i := .iaload) (n := 1) (by decide +kernel)) (by decide +kernel) (by decide +kernel) h1) <|
  (fun lv hl => q_icmp_ge (off := 33) (tgt := 65) (zd (i := .if_icmp .ge (33)) (n := 3) (by decide +kernel)) (by decide) (fun h => (kt h) lv hl) (fun h => (kf h) lv hl))
theorem w_X9_hourGoes_35 {Q : qQ} {I : qMI} {L : qML} {R : qMR} (hR : wkR R) {a1 : Int32} {a2 : Int32} {a3 : Int32} (h1 : vp_in ((24 + (6 * a2)) + a3) 97) (kt : (I 324 ((24 + (6 * a2)) + a3).toNatClampNeg) ≤ 0 → wkB l G (d + 1) n_X9_hourGoes Q 59 [.ref 292, .int a1, .int a2, .int a3] [] I L R) (kf : ¬ (I 324 ((24 + (6 * a2)) + a3).toNatClampNeg) ≤ 0 → wkB l G (d + 1) n_X9_hourGoes Q 52 [.ref 292, .int a1, .int a2, .int a3] [] I L R) : wkB l G (d + 1) n_X9_hourGoes Q 35 [.ref 292, .int a1, .int a2, .int a3] [] I L R :=
  bb_aload_n (n := 0) (i := 0) (zd (i := .aload_n 0) (n := 1) (by decide +kernel)) rfl rfl <|
  bb_getr (k := 292) (ci := 9) (j := 49) (idx := 113) (a := 324) (zd (i := .getfield 113) (n := 3) (by decide +kernel)) (by decide +kernel) (by decide +kernel) (by decide +kernel) (by decide +kernel) rfl g1177 (hR 49 (by decide)) <|
  bb_lift (fun _ => q_bipush (n := 24) (zd (i := .bipush (24)) (n := 2) (by decide +kernel)) rfl) <|
  bb_lift (fun _ => q_bipush (n := 6) (zd (i := .bipush (6)) (n := 2) (by decide +kernel)) rfl) <|
  bb_iload_n (n := 2) (i := 2) (zd (i := .iload_n 2) (n := 1) (by decide +kernel)) rfl rfl <|
  bb_lift (fun _ => q_imul (zd (i := .imul) (n := 1) (by decide +kernel))) <|
  bb_lift (fun _ => q_iadd (zd (i := .iadd) (n := 1) (by decide +kernel))) <|
  bb_iload_n (n := 3) (i := 3) (zd (i := .iload_n 3) (n := 1) (by decide +kernel)) rfl rfl <|
  bb_lift (fun _ => q_iadd (zd (i := .iadd) (n := 1) (by decide +kernel))) <|
  bb_lift (fun _ => q_iald (k := 324) (zd (i := .iaload) (n := 1) (by decide +kernel)) (by decide +kernel) (by decide +kernel) h1) <|
  (fun lv hl => q_if_le (off := 10) (tgt := 59) (zd (i := .ifCond .le (10)) (n := 3) (by decide +kernel)) (by decide) (fun h => (kt h) lv hl) (fun h => (kf h) lv hl))
theorem w_X9_hourGoes_52 {Q : qQ} {I : qMI} {L : qML} {R : qMR} {a1 : Int32} {a2 : Int32} {a3 : Int32} {P : qMI → qML → Prop} (hc : wkV l G d n_X9_loanGoes [.ref 292, .int a2, .int a3, .int a1] I L R P) (kk : ∀ I' L', P I' L' → wkB l G (d + 1) n_X9_hourGoes Q 59 [.ref 292, .int a1, .int a2, .int a3] [] I' L' R) : wkB l G (d + 1) n_X9_hourGoes Q 52 [.ref 292, .int a1, .int a2, .int a3] [] I L R :=
  bb_aload_n (n := 0) (i := 0) (zd (i := .aload_n 0) (n := 1) (by decide +kernel)) rfl rfl <|
  bb_iload_n (n := 2) (i := 2) (zd (i := .iload_n 2) (n := 1) (by decide +kernel)) rfl rfl <|
  bb_iload_n (n := 3) (i := 3) (zd (i := .iload_n 3) (n := 1) (by decide +kernel)) rfl rfl <|
  bb_iload_n (n := 1) (i := 1) (zd (i := .iload_n 1) (n := 1) (by decide +kernel)) rfl rfl <|
  bb_callVV (idx := 365) (k := 292) (ci := 9) (N := n_X9_loanGoes) (As := [.int a2, .int a3, .int a1]) (st := []) (zd (i := .invokevirtual 365) (n := 3) (by decide +kernel)) to_X9_loanGoes g1562 g1564 g85 (Nat.le_of_ble_eq_true rfl) (by decide +kernel) (by decide +kernel) (by decide +kernel) rfl rfl rfl hc kk
theorem w_X9_hourGoes_59 {Q : qQ} {I : qMI} {L : qML} {R : qMR} {a1 : Int32} {a2 : Int32} {a3 : Int32} (k : wkB l G (d + 1) n_X9_hourGoes Q 22 [.ref 292, .int a1, .int a2, .int (a3 + 1)] [] I L R) : wkB l G (d + 1) n_X9_hourGoes Q 59 [.ref 292, .int a1, .int a2, .int a3] [] I L R :=
  bb_iinc (i := 3) (n := 1) (zd (i := .iinc 3 (1)) (n := 3) (by decide +kernel)) rfl rfl (by decide +kernel) (wkNl_i rfl) <|
  bb_lift (fun _ => q_goto (off := -40) (tgt := 22) (zd (i := .goto (-40)) (n := 3) (by decide +kernel)) (by decide)) k
theorem w_X9_hourGoes_65 {Q : qQ} {I : qMI} {L : qML} {R : qMR} {a1 : Int32} {a2 : Int32} {a3 : Int32} (k : wkB l G (d + 1) n_X9_hourGoes Q 7 [.ref 292, .int a1, .int (a2 + 1), wkU] [] I L R) : wkB l G (d + 1) n_X9_hourGoes Q 65 [.ref 292, .int a1, .int a2, .int a3] [] I L R :=
  bb_iinc (i := 2) (n := 1) (zd (i := .iinc 2 (1)) (n := 3) (by decide +kernel)) rfl rfl (by decide +kernel) (wkNl_i rfl) <|
  bb_lift (fun _ => q_goto (off := -61) (tgt := 7) (zd (i := .goto (-61)) (n := 3) (by decide +kernel)) (by decide)) (wkB_le (vs := [.ref 292, .int a1, .int (a2 + 1), wkU]) (ws := [.ref 292, .int a1, .int (a2 + 1), .int a3]) ⟨Or.inr rfl, Or.inr rfl, Or.inr rfl, Or.inl rfl, trivial⟩ (k))
theorem w_X9_hourGoes_71 {Q : qQ} {I : qMI} {L : qML} {R : qMR} (hR : wkR R) {a1 : Int32} {a2 : Int32} (h1 : vp_in 96 97) (h2 : vp_in 96 97) (hQ : Q none 336 (qUp I 324 (96 : Int32).toNatClampNeg ((I 324 (96 : Int32).toNatClampNeg) + 1)) L R) : wkB l G (d + 1) n_X9_hourGoes Q 71 [.ref 292, .int a1, .int a2, wkU] [] I L R :=
  bb_aload_n (n := 0) (i := 0) (zd (i := .aload_n 0) (n := 1) (by decide +kernel)) rfl rfl <|
  bb_getr (k := 292) (ci := 9) (j := 49) (idx := 113) (a := 324) (zd (i := .getfield 113) (n := 3) (by decide +kernel)) (by decide +kernel) (by decide +kernel) (by decide +kernel) (by decide +kernel) rfl g1177 (hR 49 (by decide)) <|
  bb_lift (fun _ => q_bipush (n := 96) (zd (i := .bipush (96)) (n := 2) (by decide +kernel)) rfl) <|
  bb_lift (fun _ => q_dup2 (zd (i := .dup2) (n := 1) (by decide +kernel)) rfl rfl) <|
  bb_lift (fun _ => q_iald (k := 324) (zd (i := .iaload) (n := 1) (by decide +kernel)) (by decide +kernel) (by decide +kernel) h1) <|
  bb_lift (fun _ => q_iconst (n := 1) (zd (i := .iconst (1)) (n := 1) (by decide +kernel)) rfl) <|
  bb_lift (fun _ => q_iadd (zd (i := .iadd) (n := 1) (by decide +kernel))) <|
  bb_lift (fun _ => q_iast (k := 324) (zd (i := .iastore) (n := 1) (by decide +kernel)) (by decide +kernel) (by decide +kernel) h2) <|
  (fun lv hl => q_vret (zd (i := .return_) (n := 1) (by decide +kernel)) rfl (Nat.le_refl _) (Nat.le_refl _) hQ)
theorem w_X9_goes_0 {Q : qQ} {I : qMI} {L : qML} {R : qMR} {a1 : Int32} (k : wkB l G (d + 1) n_X9_goes Q 2 [.ref 292, .int a1, .int 0] [] I L R) : wkB l G (d + 1) n_X9_goes Q 0 [.ref 292, .int a1, wkU] [] I L R :=
  bb_lift (fun _ => q_iconst (n := 0) (zd (i := .iconst (0)) (n := 1) (by decide +kernel)) rfl) <|
  bb_istore_n (n := 2) (i := 2) (zd (i := .istore_n 2) (n := 1) (by decide +kernel)) rfl (by decide +kernel) (wkNl_i rfl) <|
  k
theorem w_X9_goes_2 {Q : qQ} {I : qMI} {L : qML} {R : qMR} {a1 : Int32} {a2 : Int32} (kt : a1 ≤ a2 → wkB l G (d + 1) n_X9_goes Q 17 [.ref 292, .int a1, .int a2] [] I L R) (kf : ¬ a1 ≤ a2 → wkB l G (d + 1) n_X9_goes Q 7 [.ref 292, .int a1, .int a2] [] I L R) : wkB l G (d + 1) n_X9_goes Q 2 [.ref 292, .int a1, .int a2] [] I L R :=
  bb_iload_n (n := 2) (i := 2) (zd (i := .iload_n 2) (n := 1) (by decide +kernel)) rfl rfl <|
  bb_iload_n (n := 1) (i := 1) (zd (i := .iload_n 1) (n := 1) (by decide +kernel)) rfl rfl <|
  (fun lv hl => q_icmp_ge (off := 13) (tgt := 17) (zd (i := .if_icmp .ge (13)) (n := 3) (by decide +kernel)) (by decide) (fun h => (kt h) lv hl) (fun h => (kf h) lv hl))
theorem w_X9_goes_7 {Q : qQ} {I : qMI} {L : qML} {R : qMR} {a1 : Int32} {a2 : Int32} {P : qMI → qML → Prop} (hc : wkV l G d n_X9_hourGoes [.ref 292] I L R P) (kk : ∀ I' L', P I' L' → wkB l G (d + 1) n_X9_goes Q 11 [.ref 292, .int a1, .int a2] [] I' L' R) : wkB l G (d + 1) n_X9_goes Q 7 [.ref 292, .int a1, .int a2] [] I L R :=
  bb_aload_n (n := 0) (i := 0) (zd (i := .aload_n 0) (n := 1) (by decide +kernel)) rfl rfl <|
  bb_callVV (idx := 369) (k := 292) (ci := 9) (N := n_X9_hourGoes) (As := []) (st := []) (zd (i := .invokevirtual 369) (n := 3) (by decide +kernel)) to_X9_hourGoes g1550 g1552 g83 (Nat.le_of_ble_eq_true rfl) (by decide +kernel) (by decide +kernel) (by decide +kernel) rfl rfl rfl hc kk
theorem w_X9_goes_11 {Q : qQ} {I : qMI} {L : qML} {R : qMR} {a1 : Int32} {a2 : Int32} (k : wkB l G (d + 1) n_X9_goes Q 2 [.ref 292, .int a1, .int (a2 + 1)] [] I L R) : wkB l G (d + 1) n_X9_goes Q 11 [.ref 292, .int a1, .int a2] [] I L R :=
  bb_iinc (i := 2) (n := 1) (zd (i := .iinc 2 (1)) (n := 3) (by decide +kernel)) rfl rfl (by decide +kernel) (wkNl_i rfl) <|
  bb_lift (fun _ => q_goto (off := -12) (tgt := 2) (zd (i := .goto (-12)) (n := 3) (by decide +kernel)) (by decide)) k
theorem w_X9_goes_17 {Q : qQ} {I : qMI} {L : qML} {R : qMR} {a1 : Int32} {a2 : Int32} (hQ : Q none 336 I L R) : wkB l G (d + 1) n_X9_goes Q 17 [.ref 292, .int a1, .int a2] [] I L R :=
  (fun lv hl => q_vret (zd (i := .return_) (n := 1) (by decide +kernel)) rfl (Nat.le_refl _) (Nat.le_refl _) hQ)
theorem w_X9_records_0 {Q : qQ} {I : qMI} {L : qML} {R : qMR}  (kt : ¬ (I 292 51) = 30 → wkB l G (d + 1) n_X9_records Q 49 [.ref 292, wkU] [] I L R) (kf : (I 292 51) = 30 → wkB l G (d + 1) n_X9_records Q 9 [.ref 292, wkU] [] I L R) : wkB l G (d + 1) n_X9_records Q 0 [.ref 292, wkU] [] I L R :=
  bb_aload_n (n := 0) (i := 0) (zd (i := .aload_n 0) (n := 1) (by decide +kernel)) rfl rfl <|
  bb_geti (k := 292) (ci := 9) (j := 51) (idx := 248) (zd (i := .getfield 248) (n := 3) (by decide +kernel)) (by decide +kernel) (by decide +kernel) (by decide +kernel) (by decide +kernel) rfl g1179 <|
  bb_lift (fun _ => q_bipush (n := 30) (zd (i := .bipush (30)) (n := 2) (by decide +kernel)) rfl) <|
  (fun lv hl => q_icmp_ne (off := 43) (tgt := 49) (zd (i := .if_icmp .ne (43)) (n := 3) (by decide +kernel)) (by decide) (fun h => (kt h) lv hl) (fun h => (kf h) lv hl))
theorem w_X9_records_9 {Q : qQ} {I : qMI} {L : qML} {R : qMR}  (k : wkB l G (d + 1) n_X9_records Q 11 [.ref 292, .int 0] [] I L R) : wkB l G (d + 1) n_X9_records Q 9 [.ref 292, wkU] [] I L R :=
  bb_lift (fun _ => q_iconst (n := 0) (zd (i := .iconst (0)) (n := 1) (by decide +kernel)) rfl) <|
  bb_istore_n (n := 1) (i := 1) (zd (i := .istore_n 1) (n := 1) (by decide +kernel)) rfl (by decide +kernel) (wkNl_r rfl) <|
  k
theorem w_X9_records_11 {Q : qQ} {I : qMI} {L : qML} {R : qMR} {a1 : Int32} (kt : 2813 ≤ a1 → wkB l G (d + 1) n_X9_records Q 39 [.ref 292, .int a1] [] I L R) (kf : ¬ 2813 ≤ a1 → wkB l G (d + 1) n_X9_records Q 18 [.ref 292, .int a1] [] I L R) : wkB l G (d + 1) n_X9_records Q 11 [.ref 292, .int a1] [] I L R :=
  bb_iload_n (n := 1) (i := 1) (zd (i := .iload_n 1) (n := 1) (by decide +kernel)) rfl rfl <|
  bb_lift (fun _ => q_sipush (n := 2813) (zd (i := .sipush (2813)) (n := 3) (by decide +kernel)) rfl) <|
  (fun lv hl => q_icmp_ge (off := 24) (tgt := 39) (zd (i := .if_icmp .ge (24)) (n := 3) (by decide +kernel)) (by decide) (fun h => (kt h) lv hl) (fun h => (kf h) lv hl))
theorem w_X9_records_18 {Q : qQ} {I : qMI} {L : qML} {R : qMR} (hR : wkR R) {a1 : Int32} (h1 : vp_in (a1 + 97) 2910) (h2 : vp_in a1 2910) (k : wkB l G (d + 1) n_X9_records Q 11 [.ref 292, .int (a1 + 1)] [] (qUp I 325 a1.toNatClampNeg (I 325 (a1 + 97).toNatClampNeg)) L R) : wkB l G (d + 1) n_X9_records Q 18 [.ref 292, .int a1] [] I L R :=
  bb_aload_n (n := 0) (i := 0) (zd (i := .aload_n 0) (n := 1) (by decide +kernel)) rfl rfl <|
  bb_getr (k := 292) (ci := 9) (j := 52) (idx := 116) (a := 325) (zd (i := .getfield 116) (n := 3) (by decide +kernel)) (by decide +kernel) (by decide +kernel) (by decide +kernel) (by decide +kernel) rfl g1180 (hR 52 (by decide)) <|
  bb_iload_n (n := 1) (i := 1) (zd (i := .iload_n 1) (n := 1) (by decide +kernel)) rfl rfl <|
  bb_aload_n (n := 0) (i := 0) (zd (i := .aload_n 0) (n := 1) (by decide +kernel)) rfl rfl <|
  bb_getr (k := 292) (ci := 9) (j := 52) (idx := 116) (a := 325) (zd (i := .getfield 116) (n := 3) (by decide +kernel)) (by decide +kernel) (by decide +kernel) (by decide +kernel) (by decide +kernel) rfl g1180 (hR 52 (by decide)) <|
  bb_iload_n (n := 1) (i := 1) (zd (i := .iload_n 1) (n := 1) (by decide +kernel)) rfl rfl <|
  bb_lift (fun _ => q_bipush (n := 97) (zd (i := .bipush (97)) (n := 2) (by decide +kernel)) rfl) <|
  bb_lift (fun _ => q_iadd (zd (i := .iadd) (n := 1) (by decide +kernel))) <|
  bb_lift (fun _ => q_iald (k := 325) (zd (i := .iaload) (n := 1) (by decide +kernel)) (by decide +kernel) (by decide +kernel) h1) <|
  bb_lift (fun _ => q_iast (k := 325) (zd (i := .iastore) (n := 1) (by decide +kernel)) (by decide +kernel) (by decide +kernel) h2) <|
  bb_iinc (i := 1) (n := 1) (zd (i := .iinc 1 (1)) (n := 3) (by decide +kernel)) rfl rfl (by decide +kernel) (wkNl_r rfl) <|
  bb_lift (fun _ => q_goto (off := -25) (tgt := 11) (zd (i := .goto (-25)) (n := 3) (by decide +kernel)) (by decide)) k
theorem w_X9_records_39 {Q : qQ} {I : qMI} {L : qML} {R : qMR} {a1 : Int32} (k : wkB l G (d + 1) n_X9_records Q 49 [.ref 292, wkU] [] (qUp I 292 51 ((I 292 51) - 1)) L R) : wkB l G (d + 1) n_X9_records Q 39 [.ref 292, .int a1] [] I L R :=
  bb_aload_n (n := 0) (i := 0) (zd (i := .aload_n 0) (n := 1) (by decide +kernel)) rfl rfl <|
  bb_lift (fun _ => q_dup (zd (i := .dup) (n := 1) (by decide +kernel)) rfl) <|
  bb_geti (k := 292) (ci := 9) (j := 51) (idx := 248) (zd (i := .getfield 248) (n := 3) (by decide +kernel)) (by decide +kernel) (by decide +kernel) (by decide +kernel) (by decide +kernel) rfl g1179 <|
  bb_lift (fun _ => q_iconst (n := 1) (zd (i := .iconst (1)) (n := 1) (by decide +kernel)) rfl) <|
  bb_lift (fun _ => q_isub (zd (i := .isub) (n := 1) (by decide +kernel))) <|
  bb_puti (k := 292) (ci := 9) (j := 51) (idx := 248) (zd (i := .putfield 248) (n := 3) (by decide +kernel)) (by decide +kernel) (by decide +kernel) (by decide +kernel) (by decide +kernel) g1179 rfl rfl <|
  (wkB_le (vs := [.ref 292, wkU]) (ws := [.ref 292, .int a1]) ⟨Or.inr rfl, Or.inl rfl, trivial⟩ (k))
theorem w_X9_records_49 {Q : qQ} {I : qMI} {L : qML} {R : qMR}  (k : wkB l G (d + 1) n_X9_records Q 51 [.ref 292, .int 0] [] I L R) : wkB l G (d + 1) n_X9_records Q 49 [.ref 292, wkU] [] I L R :=
  bb_lift (fun _ => q_iconst (n := 0) (zd (i := .iconst (0)) (n := 1) (by decide +kernel)) rfl) <|
  bb_istore_n (n := 1) (i := 1) (zd (i := .istore_n 1) (n := 1) (by decide +kernel)) rfl (by decide +kernel) (wkNl_r rfl) <|
  k
theorem w_X9_records_51 {Q : qQ} {I : qMI} {L : qML} {R : qMR} {a1 : Int32} (kt : 97 ≤ a1 → wkB l G (d + 1) n_X9_records Q 83 [.ref 292, .int a1] [] I L R) (kf : ¬ 97 ≤ a1 → wkB l G (d + 1) n_X9_records Q 57 [.ref 292, .int a1] [] I L R) : wkB l G (d + 1) n_X9_records Q 51 [.ref 292, .int a1] [] I L R :=
  bb_iload_n (n := 1) (i := 1) (zd (i := .iload_n 1) (n := 1) (by decide +kernel)) rfl rfl <|
  bb_lift (fun _ => q_bipush (n := 97) (zd (i := .bipush (97)) (n := 2) (by decide +kernel)) rfl) <|
  (fun lv hl => q_icmp_ge (off := 29) (tgt := 83) (zd (i := .if_icmp .ge (29)) (n := 3) (by decide +kernel)) (by decide) (fun h => (kt h) lv hl) (fun h => (kf h) lv hl))
theorem w_X9_records_57 {Q : qQ} {I : qMI} {L : qML} {R : qMR} (hR : wkR R) {a1 : Int32} (h1 : vp_in a1 97) (h2 : vp_in ((97 * (I 292 51)) + a1) 2910) (k : wkB l G (d + 1) n_X9_records Q 51 [.ref 292, .int (a1 + 1)] [] (qUp I 325 ((97 * (I 292 51)) + a1).toNatClampNeg (I 323 a1.toNatClampNeg)) L R) : wkB l G (d + 1) n_X9_records Q 57 [.ref 292, .int a1] [] I L R :=
  bb_aload_n (n := 0) (i := 0) (zd (i := .aload_n 0) (n := 1) (by decide +kernel)) rfl rfl <|
  bb_getr (k := 292) (ci := 9) (j := 52) (idx := 116) (a := 325) (zd (i := .getfield 116) (n := 3) (by decide +kernel)) (by decide +kernel) (by decide +kernel) (by decide +kernel) (by decide +kernel) rfl g1180 (hR 52 (by decide)) <|
  bb_lift (fun _ => q_bipush (n := 97) (zd (i := .bipush (97)) (n := 2) (by decide +kernel)) rfl) <|
  bb_aload_n (n := 0) (i := 0) (zd (i := .aload_n 0) (n := 1) (by decide +kernel)) rfl rfl <|
  bb_geti (k := 292) (ci := 9) (j := 51) (idx := 248) (zd (i := .getfield 248) (n := 3) (by decide +kernel)) (by decide +kernel) (by decide +kernel) (by decide +kernel) (by decide +kernel) rfl g1179 <|
  bb_lift (fun _ => q_imul (zd (i := .imul) (n := 1) (by decide +kernel))) <|
  bb_iload_n (n := 1) (i := 1) (zd (i := .iload_n 1) (n := 1) (by decide +kernel)) rfl rfl <|
  bb_lift (fun _ => q_iadd (zd (i := .iadd) (n := 1) (by decide +kernel))) <|
  bb_aload_n (n := 0) (i := 0) (zd (i := .aload_n 0) (n := 1) (by decide +kernel)) rfl rfl <|
  bb_getr (k := 292) (ci := 9) (j := 48) (idx := 110) (a := 323) (zd (i := .getfield 110) (n := 3) (by decide +kernel)) (by decide +kernel) (by decide +kernel) (by decide +kernel) (by decide +kernel) rfl g1176 (hR 48 (by decide)) <|
  bb_iload_n (n := 1) (i := 1) (zd (i := .iload_n 1) (n := 1) (by decide +kernel)) rfl rfl <|
  bb_lift (fun _ => q_iald (k := 323) (zd (i := .iaload) (n := 1) (by decide +kernel)) (by decide +kernel) (by decide +kernel) h1) <|
  bb_lift (fun _ => q_iast (k := 325) (zd (i := .iastore) (n := 1) (by decide +kernel)) (by decide +kernel) (by decide +kernel) h2) <|
  bb_iinc (i := 1) (n := 1) (zd (i := .iinc 1 (1)) (n := 3) (by decide +kernel)) rfl rfl (by decide +kernel) (wkNl_r rfl) <|
  bb_lift (fun _ => q_goto (off := -29) (tgt := 51) (zd (i := .goto (-29)) (n := 3) (by decide +kernel)) (by decide)) k
theorem w_X9_records_83 {Q : qQ} {I : qMI} {L : qML} {R : qMR} {a1 : Int32} {P : qMI → qML → Prop} (hc : wkV l G d n_X9_keepsRow [.ref 292] (qUp I 292 51 ((I 292 51) + 1)) L R P) (kk : ∀ I' L', P I' L' → wkB l G (d + 1) n_X9_records Q 97 [.ref 292, .int a1] [] I' L' R) : wkB l G (d + 1) n_X9_records Q 83 [.ref 292, .int a1] [] I L R :=
  bb_aload_n (n := 0) (i := 0) (zd (i := .aload_n 0) (n := 1) (by decide +kernel)) rfl rfl <|
  bb_lift (fun _ => q_dup (zd (i := .dup) (n := 1) (by decide +kernel)) rfl) <|
  bb_geti (k := 292) (ci := 9) (j := 51) (idx := 248) (zd (i := .getfield 248) (n := 3) (by decide +kernel)) (by decide +kernel) (by decide +kernel) (by decide +kernel) (by decide +kernel) rfl g1179 <|
  bb_lift (fun _ => q_iconst (n := 1) (zd (i := .iconst (1)) (n := 1) (by decide +kernel)) rfl) <|
  bb_lift (fun _ => q_iadd (zd (i := .iadd) (n := 1) (by decide +kernel))) <|
  bb_puti (k := 292) (ci := 9) (j := 51) (idx := 248) (zd (i := .putfield 248) (n := 3) (by decide +kernel)) (by decide +kernel) (by decide +kernel) (by decide +kernel) (by decide +kernel) g1179 rfl rfl <|
  bb_aload_n (n := 0) (i := 0) (zd (i := .aload_n 0) (n := 1) (by decide +kernel)) rfl rfl <|
  bb_callVV (idx := 164) (k := 292) (ci := 9) (N := n_X9_keepsRow) (As := []) (st := []) (zd (i := .invokevirtual 164) (n := 3) (by decide +kernel)) to_X9_keepsRow g1125 g1127 g43 (Nat.le_of_ble_eq_true rfl) (by decide +kernel) (by decide +kernel) (by decide +kernel) rfl rfl rfl hc kk
theorem w_X9_records_97 {Q : qQ} {I : qMI} {L : qML} {R : qMR} {a1 : Int32} (hQ : Q none 336 I L R) : wkB l G (d + 1) n_X9_records Q 97 [.ref 292, .int a1] [] I L R :=
  (fun lv hl => q_vret (zd (i := .return_) (n := 1) (by decide +kernel)) rfl (Nat.le_refl _) (Nat.le_refl _) hQ)
theorem w_X9_lend_0 {Q : qQ} {I : qMI} {L : qML} {R : qMR} {a1 : Int32} {a2 : Int32} {a3 : Int32} {P : Int32 → qMI → qML → Prop} (hc : wkI l G d n_X9_isSeat [.ref 292, .int a1] I L R P) (kk : ∀ y I' L', P y I' L' → wkB l G (d + 1) n_X9_lend Q 5 [.ref 292, .int a1, .int a2, .int a3, wkU] [.int y] I' L' R) : wkB l G (d + 1) n_X9_lend Q 0 [.ref 292, .int a1, .int a2, .int a3, wkU] [] I L R :=
  bb_aload_n (n := 0) (i := 0) (zd (i := .aload_n 0) (n := 1) (by decide +kernel)) rfl rfl <|
  bb_iload_n (n := 1) (i := 1) (zd (i := .iload_n 1) (n := 1) (by decide +kernel)) rfl rfl <|
  bb_callVI (idx := 378) (k := 292) (ci := 9) (N := n_X9_isSeat) (As := [.int a1]) (st := []) (zd (i := .invokevirtual 378) (n := 3) (by decide +kernel)) to_X9_isSeat g1487 g1489 g75 (Nat.le_of_ble_eq_true rfl) (by decide +kernel) (by decide +kernel) (by decide +kernel) rfl rfl rfl hc kk
theorem w_X9_lend_5 {Q : qQ} {I : qMI} {L : qML} {R : qMR} {a1 : Int32} {a2 : Int32} {a3 : Int32} {s0 : Int32} (kt : s0 = 0 → wkB l G (d + 1) n_X9_lend Q 27 [.ref 292, .int a1, .int a2, .int a3, wkU] [] I L R) (kf : ¬ s0 = 0 → wkB l G (d + 1) n_X9_lend Q 8 [.ref 292, .int a1, .int a2, .int a3, wkU] [] I L R) : wkB l G (d + 1) n_X9_lend Q 5 [.ref 292, .int a1, .int a2, .int a3, wkU] [.int s0] I L R :=
  (fun lv hl => q_if_eq (off := 22) (tgt := 27) (zd (i := .ifCond .eq (22)) (n := 3) (by decide +kernel)) (by decide) (fun h => (kt h) lv hl) (fun h => (kf h) lv hl))
theorem w_X9_lend_8 {Q : qQ} {I : qMI} {L : qML} {R : qMR} {a1 : Int32} {a2 : Int32} {a3 : Int32} {P : Int32 → qMI → qML → Prop} (hc : wkI l G d n_X9_isThing [.ref 292, .int a2] I L R P) (kk : ∀ y I' L', P y I' L' → wkB l G (d + 1) n_X9_lend Q 13 [.ref 292, .int a1, .int a2, .int a3, wkU] [.int y] I' L' R) : wkB l G (d + 1) n_X9_lend Q 8 [.ref 292, .int a1, .int a2, .int a3, wkU] [] I L R :=
  bb_aload_n (n := 0) (i := 0) (zd (i := .aload_n 0) (n := 1) (by decide +kernel)) rfl rfl <|
  bb_iload_n (n := 2) (i := 2) (zd (i := .iload_n 2) (n := 1) (by decide +kernel)) rfl rfl <|
  bb_callVI (idx := 372) (k := 292) (ci := 9) (N := n_X9_isThing) (As := [.int a2]) (st := []) (zd (i := .invokevirtual 372) (n := 3) (by decide +kernel)) to_X9_isThing g1438 g1440 g66 (Nat.le_of_ble_eq_true rfl) (by decide +kernel) (by decide +kernel) (by decide +kernel) rfl rfl rfl hc kk
theorem w_X9_lend_13 {Q : qQ} {I : qMI} {L : qML} {R : qMR} {a1 : Int32} {a2 : Int32} {a3 : Int32} {s0 : Int32} (kt : s0 = 0 → wkB l G (d + 1) n_X9_lend Q 27 [.ref 292, .int a1, .int a2, .int a3, wkU] [] I L R) (kf : ¬ s0 = 0 → wkB l G (d + 1) n_X9_lend Q 16 [.ref 292, .int a1, .int a2, .int a3, wkU] [] I L R) : wkB l G (d + 1) n_X9_lend Q 13 [.ref 292, .int a1, .int a2, .int a3, wkU] [.int s0] I L R :=
  (fun lv hl => q_if_eq (off := 14) (tgt := 27) (zd (i := .ifCond .eq (14)) (n := 3) (by decide +kernel)) (by decide) (fun h => (kt h) lv hl) (fun h => (kf h) lv hl))
theorem w_X9_lend_16 {Q : qQ} {I : qMI} {L : qML} {R : qMR} {a1 : Int32} {a2 : Int32} {a3 : Int32} {P : Int32 → qMI → qML → Prop} (hc : wkI l G d n_X9_in [.int a3, .int 1, .int 999] I L R P) (kk : ∀ y I' L', P y I' L' → wkB l G (d + 1) n_X9_lend Q 24 [.ref 292, .int a1, .int a2, .int a3, wkU] [.int y] I' L' R) : wkB l G (d + 1) n_X9_lend Q 16 [.ref 292, .int a1, .int a2, .int a3, wkU] [] I L R :=
  bb_iload_n (n := 3) (i := 3) (zd (i := .iload_n 3) (n := 1) (by decide +kernel)) rfl rfl <|
  bb_lift (fun _ => q_iconst (n := 1) (zd (i := .iconst (1)) (n := 1) (by decide +kernel)) rfl) <|
  bb_lift (fun _ => q_sipush (n := 999) (zd (i := .sipush (999)) (n := 3) (by decide +kernel)) rfl) <|
  bb_callSI (idx := 304) (N := n_X9_in) (As := [.int a3, .int 1, .int 999]) (st := []) (zd (i := .invokestatic 304) (n := 3) (by decide +kernel)) to_X9_in g1442 g1443 (Nat.le_of_ble_eq_true rfl) rfl rfl hc kk
theorem w_X9_lend_24 {Q : qQ} {I : qMI} {L : qML} {R : qMR} {a1 : Int32} {a2 : Int32} {a3 : Int32} {s0 : Int32} (kt : ¬ s0 = 0 → wkB l G (d + 1) n_X9_lend Q 29 [.ref 292, .int a1, .int a2, .int a3, wkU] [] I L R) (kf : s0 = 0 → wkB l G (d + 1) n_X9_lend Q 27 [.ref 292, .int a1, .int a2, .int a3, wkU] [] I L R) : wkB l G (d + 1) n_X9_lend Q 24 [.ref 292, .int a1, .int a2, .int a3, wkU] [.int s0] I L R :=
  (fun lv hl => q_if_ne (off := 5) (tgt := 29) (zd (i := .ifCond .ne (5)) (n := 3) (by decide +kernel)) (by decide) (fun h => (kt h) lv hl) (fun h => (kf h) lv hl))
theorem w_X9_lend_27 {Q : qQ} {I : qMI} {L : qML} {R : qMR} {a1 : Int32} {a2 : Int32} {a3 : Int32} (hQ : Q (some (.int (-1))) 336 I L R) : wkB l G (d + 1) n_X9_lend Q 27 [.ref 292, .int a1, .int a2, .int a3, wkU] [] I L R :=
  bb_lift (fun _ => q_iconst (n := -1) (zd (i := .iconst (-1)) (n := 1) (by decide +kernel)) rfl) <|
  (fun lv hl => q_iret (zd (i := .ireturn) (n := 1) (by decide +kernel)) rfl rfl (Nat.le_refl _) (Nat.le_refl _) hQ)
theorem w_X9_lend_29 {Q : qQ} {I : qMI} {L : qML} {R : qMR} {a1 : Int32} {a2 : Int32} {a3 : Int32} {P : qMI → qML → Prop} (hc : wkV l G d n_X9_copies [.ref 292] I L R P) (kk : ∀ I' L', P I' L' → wkB l G (d + 1) n_X9_lend Q 33 [.ref 292, .int a1, .int a2, .int a3, wkU] [] I' L' R) : wkB l G (d + 1) n_X9_lend Q 29 [.ref 292, .int a1, .int a2, .int a3, wkU] [] I L R :=
  bb_aload_n (n := 0) (i := 0) (zd (i := .aload_n 0) (n := 1) (by decide +kernel)) rfl rfl <|
  bb_callVV (idx := 375) (k := 292) (ci := 9) (N := n_X9_copies) (As := []) (st := []) (zd (i := .invokevirtual 375) (n := 3) (by decide +kernel)) to_X9_copies g1445 g1447 g67 (Nat.le_of_ble_eq_true rfl) (by decide +kernel) (by decide +kernel) (by decide +kernel) rfl rfl rfl hc kk
theorem w_X9_lend_33 {Q : qQ} {I : qMI} {L : qML} {R : qMR} (hR : wkR R) {a1 : Int32} {a2 : Int32} {a3 : Int32} (h1 : vp_in (6 + a1) 97) (kt : (I 324 (6 + a1).toNatClampNeg) < a3 → wkB l G (d + 1) n_X9_lend Q 88 [.ref 292, .int a1, .int a2, .int a3, .int ((6 * a1) + a2)] [] I L R) (kf : ¬ (I 324 (6 + a1).toNatClampNeg) < a3 → wkB l G (d + 1) n_X9_lend Q 54 [.ref 292, .int a1, .int a2, .int a3, .int ((6 * a1) + a2)] [] I L R) : wkB l G (d + 1) n_X9_lend Q 33 [.ref 292, .int a1, .int a2, .int a3, wkU] [] I L R :=
  bb_lift (fun _ => q_bipush (n := 6) (zd (i := .bipush (6)) (n := 2) (by decide +kernel)) rfl) <|
  bb_iload_n (n := 1) (i := 1) (zd (i := .iload_n 1) (n := 1) (by decide +kernel)) rfl rfl <|
  bb_lift (fun _ => q_imul (zd (i := .imul) (n := 1) (by decide +kernel))) <|
  bb_iload_n (n := 2) (i := 2) (zd (i := .iload_n 2) (n := 1) (by decide +kernel)) rfl rfl <|
  bb_lift (fun _ => q_iadd (zd (i := .iadd) (n := 1) (by decide +kernel))) <|
  bb_istore (i := 4) (zd (i := .istore 4) (n := 2) (by decide +kernel)) (by decide +kernel) (wkNl_i rfl) <|
  bb_aload_n (n := 0) (i := 0) (zd (i := .aload_n 0) (n := 1) (by decide +kernel)) rfl rfl <|
  bb_getr (k := 292) (ci := 9) (j := 49) (idx := 113) (a := 324) (zd (i := .getfield 113) (n := 3) (by decide +kernel)) (by decide +kernel) (by decide +kernel) (by decide +kernel) (by decide +kernel) rfl g1177 (hR 49 (by decide)) <|
  bb_lift (fun _ => q_bipush (n := 6) (zd (i := .bipush (6)) (n := 2) (by decide +kernel)) rfl) <|
  bb_iload_n (n := 1) (i := 1) (zd (i := .iload_n 1) (n := 1) (by decide +kernel)) rfl rfl <|
  bb_lift (fun _ => q_iadd (zd (i := .iadd) (n := 1) (by decide +kernel))) <|
  bb_lift (fun _ => q_iald (k := 324) (zd (i := .iaload) (n := 1) (by decide +kernel)) (by decide +kernel) (by decide +kernel) h1) <|
  bb_iload_n (n := 3) (i := 3) (zd (i := .iload_n 3) (n := 1) (by decide +kernel)) rfl rfl <|
  (fun lv hl => q_icmp_lt (off := 37) (tgt := 88) (zd (i := .if_icmp .lt (37)) (n := 3) (by decide +kernel)) (by decide) (fun h => (kt h) lv hl) (fun h => (kf h) lv hl))
theorem w_X9_lend_54 {Q : qQ} {I : qMI} {L : qML} {R : qMR} (hR : wkR R) {a1 : Int32} {a2 : Int32} {a3 : Int32} {a4 : Int32} (h1 : vp_in (24 + a4) 97) (kt : 0 < (I 324 (24 + a4).toNatClampNeg) → wkB l G (d + 1) n_X9_lend Q 88 [.ref 292, .int a1, .int a2, .int a3, .int a4] [] I L R) (kf : ¬ 0 < (I 324 (24 + a4).toNatClampNeg) → wkB l G (d + 1) n_X9_lend Q 67 [.ref 292, .int a1, .int a2, .int a3, .int a4] [] I L R) : wkB l G (d + 1) n_X9_lend Q 54 [.ref 292, .int a1, .int a2, .int a3, .int a4] [] I L R :=
  bb_aload_n (n := 0) (i := 0) (zd (i := .aload_n 0) (n := 1) (by decide +kernel)) rfl rfl <|
  bb_getr (k := 292) (ci := 9) (j := 49) (idx := 113) (a := 324) (zd (i := .getfield 113) (n := 3) (by decide +kernel)) (by decide +kernel) (by decide +kernel) (by decide +kernel) (by decide +kernel) rfl g1177 (hR 49 (by decide)) <|
  bb_lift (fun _ => q_bipush (n := 24) (zd (i := .bipush (24)) (n := 2) (by decide +kernel)) rfl) <|
  bb_iload (i := 4) (zd (i := .iload 4) (n := 2) (by decide +kernel)) rfl <|
  bb_lift (fun _ => q_iadd (zd (i := .iadd) (n := 1) (by decide +kernel))) <|
  bb_lift (fun _ => q_iald (k := 324) (zd (i := .iaload) (n := 1) (by decide +kernel)) (by decide +kernel) (by decide +kernel) h1) <|
  (fun lv hl => q_if_gt (off := 24) (tgt := 88) (zd (i := .ifCond .gt (24)) (n := 3) (by decide +kernel)) (by decide) (fun h => (kt h) lv hl) (fun h => (kf h) lv hl))
theorem w_X9_lend_67 {Q : qQ} {I : qMI} {L : qML} {R : qMR} (hR : wkR R) {a1 : Int32} {a2 : Int32} {a3 : Int32} {a4 : Int32} (h1 : vp_in a1 97) (h2 : vp_in 96 97) {P : Int32 → qMI → qML → Prop} (hc : wkI l G d n_X9_sees [.ref 292, .int (I 324 a1.toNatClampNeg), .int a2, .int (I 324 (96 : Int32).toNatClampNeg)] I L R P) (kk : ∀ y I' L', P y I' L' → wkB l G (d + 1) n_X9_lend Q 85 [.ref 292, .int a1, .int a2, .int a3, .int a4] [.int y] I' L' R) : wkB l G (d + 1) n_X9_lend Q 67 [.ref 292, .int a1, .int a2, .int a3, .int a4] [] I L R :=
  bb_aload_n (n := 0) (i := 0) (zd (i := .aload_n 0) (n := 1) (by decide +kernel)) rfl rfl <|
  bb_aload_n (n := 0) (i := 0) (zd (i := .aload_n 0) (n := 1) (by decide +kernel)) rfl rfl <|
  bb_getr (k := 292) (ci := 9) (j := 49) (idx := 113) (a := 324) (zd (i := .getfield 113) (n := 3) (by decide +kernel)) (by decide +kernel) (by decide +kernel) (by decide +kernel) (by decide +kernel) rfl g1177 (hR 49 (by decide)) <|
  bb_iload_n (n := 1) (i := 1) (zd (i := .iload_n 1) (n := 1) (by decide +kernel)) rfl rfl <|
  bb_lift (fun _ => q_iald (k := 324) (zd (i := .iaload) (n := 1) (by decide +kernel)) (by decide +kernel) (by decide +kernel) h1) <|
  bb_iload_n (n := 2) (i := 2) (zd (i := .iload_n 2) (n := 1) (by decide +kernel)) rfl rfl <|
  bb_aload_n (n := 0) (i := 0) (zd (i := .aload_n 0) (n := 1) (by decide +kernel)) rfl rfl <|
  bb_getr (k := 292) (ci := 9) (j := 49) (idx := 113) (a := 324) (zd (i := .getfield 113) (n := 3) (by decide +kernel)) (by decide +kernel) (by decide +kernel) (by decide +kernel) (by decide +kernel) rfl g1177 (hR 49 (by decide)) <|
  bb_lift (fun _ => q_bipush (n := 96) (zd (i := .bipush (96)) (n := 2) (by decide +kernel)) rfl) <|
  bb_lift (fun _ => q_iald (k := 324) (zd (i := .iaload) (n := 1) (by decide +kernel)) (by decide +kernel) (by decide +kernel) h2) <|
  bb_callVI (idx := 352) (k := 292) (ci := 9) (N := n_X9_sees) (As := [.int (I 324 a1.toNatClampNeg), .int a2, .int (I 324 (96 : Int32).toNatClampNeg)]) (st := []) (zd (i := .invokevirtual 352) (n := 3) (by decide +kernel)) to_X9_sees g1449 g1451 g68 (Nat.le_of_ble_eq_true rfl) (by decide +kernel) (by decide +kernel) (by decide +kernel) rfl rfl rfl hc kk
theorem w_X9_lend_85 {Q : qQ} {I : qMI} {L : qML} {R : qMR} {a1 : Int32} {a2 : Int32} {a3 : Int32} {a4 : Int32} {s0 : Int32} (kt : ¬ s0 = 0 → wkB l G (d + 1) n_X9_lend Q 91 [.ref 292, .int a1, .int a2, .int a3, .int a4] [] I L R) (kf : s0 = 0 → wkB l G (d + 1) n_X9_lend Q 88 [.ref 292, .int a1, .int a2, .int a3, .int a4] [] I L R) : wkB l G (d + 1) n_X9_lend Q 85 [.ref 292, .int a1, .int a2, .int a3, .int a4] [.int s0] I L R :=
  (fun lv hl => q_if_ne (off := 6) (tgt := 91) (zd (i := .ifCond .ne (6)) (n := 3) (by decide +kernel)) (by decide) (fun h => (kt h) lv hl) (fun h => (kf h) lv hl))
theorem w_X9_lend_88 {Q : qQ} {I : qMI} {L : qML} {R : qMR} {a1 : Int32} {a2 : Int32} {a3 : Int32} {a4 : Int32} (hQ : Q (some (.int (-2))) 336 I L R) : wkB l G (d + 1) n_X9_lend Q 88 [.ref 292, .int a1, .int a2, .int a3, .int a4] [] I L R :=
  bb_lift (fun _ => q_bipush (n := -2) (zd (i := .bipush (-2)) (n := 2) (by decide +kernel)) rfl) <|
  (fun lv hl => q_iret (zd (i := .ireturn) (n := 1) (by decide +kernel)) rfl rfl (Nat.le_refl _) (Nat.le_refl _) hQ)
theorem w_X9_lend_91 {Q : qQ} {I : qMI} {L : qML} {R : qMR} (hR : wkR R) {a1 : Int32} {a2 : Int32} {a3 : Int32} {a4 : Int32} (h1 : vp_in (6 + a1) 97) (h2 : vp_in (6 + a1) 97) (h3 : vp_in (24 + a4) 97) (h4 : vp_in (60 + a4) 97) {P : qMI → qML → Prop} (hc : wkV l G d n_X9_records [.ref 292] (qUp (qUp (qUp I 324 (6 + a1).toNatClampNeg ((I 324 (6 + a1).toNatClampNeg) - a3)) 324 (24 + a4).toNatClampNeg a3) 324 (60 + a4).toNatClampNeg 0) L R P) (kk : ∀ I' L', P I' L' → wkB l G (d + 1) n_X9_lend Q 130 [.ref 292, .int a1, .int a2, .int a3, .int a4] [] I' L' R) : wkB l G (d + 1) n_X9_lend Q 91 [.ref 292, .int a1, .int a2, .int a3, .int a4] [] I L R :=
  bb_aload_n (n := 0) (i := 0) (zd (i := .aload_n 0) (n := 1) (by decide +kernel)) rfl rfl <|
  bb_getr (k := 292) (ci := 9) (j := 49) (idx := 113) (a := 324) (zd (i := .getfield 113) (n := 3) (by decide +kernel)) (by decide +kernel) (by decide +kernel) (by decide +kernel) (by decide +kernel) rfl g1177 (hR 49 (by decide)) <|
  bb_lift (fun _ => q_bipush (n := 6) (zd (i := .bipush (6)) (n := 2) (by decide +kernel)) rfl) <|
  bb_iload_n (n := 1) (i := 1) (zd (i := .iload_n 1) (n := 1) (by decide +kernel)) rfl rfl <|
  bb_lift (fun _ => q_iadd (zd (i := .iadd) (n := 1) (by decide +kernel))) <|
  bb_lift (fun _ => q_dup2 (zd (i := .dup2) (n := 1) (by decide +kernel)) rfl rfl) <|
  bb_lift (fun _ => q_iald (k := 324) (zd (i := .iaload) (n := 1) (by decide +kernel)) (by decide +kernel) (by decide +kernel) h1) <|
  bb_iload_n (n := 3) (i := 3) (zd (i := .iload_n 3) (n := 1) (by decide +kernel)) rfl rfl <|
  bb_lift (fun _ => q_isub (zd (i := .isub) (n := 1) (by decide +kernel))) <|
  bb_lift (fun _ => q_iast (k := 324) (zd (i := .iastore) (n := 1) (by decide +kernel)) (by decide +kernel) (by decide +kernel) h2) <|
  bb_aload_n (n := 0) (i := 0) (zd (i := .aload_n 0) (n := 1) (by decide +kernel)) rfl rfl <|
  bb_getr (k := 292) (ci := 9) (j := 49) (idx := 113) (a := 324) (zd (i := .getfield 113) (n := 3) (by decide +kernel)) (by decide +kernel) (by decide +kernel) (by decide +kernel) (by decide +kernel) rfl g1177 (hR 49 (by decide)) <|
  bb_lift (fun _ => q_bipush (n := 24) (zd (i := .bipush (24)) (n := 2) (by decide +kernel)) rfl) <|
  bb_iload (i := 4) (zd (i := .iload 4) (n := 2) (by decide +kernel)) rfl <|
  bb_lift (fun _ => q_iadd (zd (i := .iadd) (n := 1) (by decide +kernel))) <|
  bb_iload_n (n := 3) (i := 3) (zd (i := .iload_n 3) (n := 1) (by decide +kernel)) rfl rfl <|
  bb_lift (fun _ => q_iast (k := 324) (zd (i := .iastore) (n := 1) (by decide +kernel)) (by decide +kernel) (by decide +kernel) h3) <|
  bb_aload_n (n := 0) (i := 0) (zd (i := .aload_n 0) (n := 1) (by decide +kernel)) rfl rfl <|
  bb_getr (k := 292) (ci := 9) (j := 49) (idx := 113) (a := 324) (zd (i := .getfield 113) (n := 3) (by decide +kernel)) (by decide +kernel) (by decide +kernel) (by decide +kernel) (by decide +kernel) rfl g1177 (hR 49 (by decide)) <|
  bb_lift (fun _ => q_bipush (n := 60) (zd (i := .bipush (60)) (n := 2) (by decide +kernel)) rfl) <|
  bb_iload (i := 4) (zd (i := .iload 4) (n := 2) (by decide +kernel)) rfl <|
  bb_lift (fun _ => q_iadd (zd (i := .iadd) (n := 1) (by decide +kernel))) <|
  bb_lift (fun _ => q_iconst (n := 0) (zd (i := .iconst (0)) (n := 1) (by decide +kernel)) rfl) <|
  bb_lift (fun _ => q_iast (k := 324) (zd (i := .iastore) (n := 1) (by decide +kernel)) (by decide +kernel) (by decide +kernel) h4) <|
  bb_aload_n (n := 0) (i := 0) (zd (i := .aload_n 0) (n := 1) (by decide +kernel)) rfl rfl <|
  bb_callVV (idx := 390) (k := 292) (ci := 9) (N := n_X9_records) (As := []) (st := []) (zd (i := .invokevirtual 390) (n := 3) (by decide +kernel)) to_X9_records g1526 g1528 g81 (Nat.le_of_ble_eq_true rfl) (by decide +kernel) (by decide +kernel) (by decide +kernel) rfl rfl rfl hc kk
theorem w_X9_lend_130 {Q : qQ} {I : qMI} {L : qML} {R : qMR} (hR : wkR R) {a1 : Int32} {a2 : Int32} {a3 : Int32} {a4 : Int32} (h1 : vp_in (6 + a1) 97) (hQ : Q (some (.int (I 323 (6 + a1).toNatClampNeg))) 336 I L R) : wkB l G (d + 1) n_X9_lend Q 130 [.ref 292, .int a1, .int a2, .int a3, .int a4] [] I L R :=
  bb_aload_n (n := 0) (i := 0) (zd (i := .aload_n 0) (n := 1) (by decide +kernel)) rfl rfl <|
  bb_getr (k := 292) (ci := 9) (j := 48) (idx := 110) (a := 323) (zd (i := .getfield 110) (n := 3) (by decide +kernel)) (by decide +kernel) (by decide +kernel) (by decide +kernel) (by decide +kernel) rfl g1176 (hR 48 (by decide)) <|
  bb_lift (fun _ => q_bipush (n := 6) (zd (i := .bipush (6)) (n := 2) (by decide +kernel)) rfl) <|
  bb_iload_n (n := 1) (i := 1) (zd (i := .iload_n 1) (n := 1) (by decide +kernel)) rfl rfl <|
  bb_lift (fun _ => q_iadd (zd (i := .iadd) (n := 1) (by decide +kernel))) <|
  bb_lift (fun _ => q_iald (k := 323) (zd (i := .iaload) (n := 1) (by decide +kernel)) (by decide +kernel) (by decide +kernel) h1) <|
  (fun lv hl => q_iret (zd (i := .ireturn) (n := 1) (by decide +kernel)) rfl rfl (Nat.le_refl _) (Nat.le_refl _) hQ)
theorem w_X9_call_0 {Q : qQ} {I : qMI} {L : qML} {R : qMR} {a1 : Int32} {a2 : Int32} {P : Int32 → qMI → qML → Prop} (hc : wkI l G d n_X9_isSeat [.ref 292, .int a1] I L R P) (kk : ∀ y I' L', P y I' L' → wkB l G (d + 1) n_X9_call Q 5 [.ref 292, .int a1, .int a2, wkU, wkU] [.int y] I' L' R) : wkB l G (d + 1) n_X9_call Q 0 [.ref 292, .int a1, .int a2, wkU, wkU] [] I L R :=
  bb_aload_n (n := 0) (i := 0) (zd (i := .aload_n 0) (n := 1) (by decide +kernel)) rfl rfl <|
  bb_iload_n (n := 1) (i := 1) (zd (i := .iload_n 1) (n := 1) (by decide +kernel)) rfl rfl <|
  bb_callVI (idx := 378) (k := 292) (ci := 9) (N := n_X9_isSeat) (As := [.int a1]) (st := []) (zd (i := .invokevirtual 378) (n := 3) (by decide +kernel)) to_X9_isSeat g1487 g1489 g75 (Nat.le_of_ble_eq_true rfl) (by decide +kernel) (by decide +kernel) (by decide +kernel) rfl rfl rfl hc kk
theorem w_X9_call_5 {Q : qQ} {I : qMI} {L : qML} {R : qMR} {a1 : Int32} {a2 : Int32} {s0 : Int32} (kt : s0 = 0 → wkB l G (d + 1) n_X9_call Q 16 [.ref 292, .int a1, .int a2, wkU, wkU] [] I L R) (kf : ¬ s0 = 0 → wkB l G (d + 1) n_X9_call Q 8 [.ref 292, .int a1, .int a2, wkU, wkU] [] I L R) : wkB l G (d + 1) n_X9_call Q 5 [.ref 292, .int a1, .int a2, wkU, wkU] [.int s0] I L R :=
  (fun lv hl => q_if_eq (off := 11) (tgt := 16) (zd (i := .ifCond .eq (11)) (n := 3) (by decide +kernel)) (by decide) (fun h => (kt h) lv hl) (fun h => (kf h) lv hl))
theorem w_X9_call_8 {Q : qQ} {I : qMI} {L : qML} {R : qMR} {a1 : Int32} {a2 : Int32} {P : Int32 → qMI → qML → Prop} (hc : wkI l G d n_X9_isThing [.ref 292, .int a2] I L R P) (kk : ∀ y I' L', P y I' L' → wkB l G (d + 1) n_X9_call Q 13 [.ref 292, .int a1, .int a2, wkU, wkU] [.int y] I' L' R) : wkB l G (d + 1) n_X9_call Q 8 [.ref 292, .int a1, .int a2, wkU, wkU] [] I L R :=
  bb_aload_n (n := 0) (i := 0) (zd (i := .aload_n 0) (n := 1) (by decide +kernel)) rfl rfl <|
  bb_iload_n (n := 2) (i := 2) (zd (i := .iload_n 2) (n := 1) (by decide +kernel)) rfl rfl <|
  bb_callVI (idx := 372) (k := 292) (ci := 9) (N := n_X9_isThing) (As := [.int a2]) (st := []) (zd (i := .invokevirtual 372) (n := 3) (by decide +kernel)) to_X9_isThing g1438 g1440 g66 (Nat.le_of_ble_eq_true rfl) (by decide +kernel) (by decide +kernel) (by decide +kernel) rfl rfl rfl hc kk
theorem w_X9_call_13 {Q : qQ} {I : qMI} {L : qML} {R : qMR} {a1 : Int32} {a2 : Int32} {s0 : Int32} (kt : ¬ s0 = 0 → wkB l G (d + 1) n_X9_call Q 18 [.ref 292, .int a1, .int a2, wkU, wkU] [] I L R) (kf : s0 = 0 → wkB l G (d + 1) n_X9_call Q 16 [.ref 292, .int a1, .int a2, wkU, wkU] [] I L R) : wkB l G (d + 1) n_X9_call Q 13 [.ref 292, .int a1, .int a2, wkU, wkU] [.int s0] I L R :=
  (fun lv hl => q_if_ne (off := 5) (tgt := 18) (zd (i := .ifCond .ne (5)) (n := 3) (by decide +kernel)) (by decide) (fun h => (kt h) lv hl) (fun h => (kf h) lv hl))
theorem w_X9_call_16 {Q : qQ} {I : qMI} {L : qML} {R : qMR} {a1 : Int32} {a2 : Int32} (hQ : Q (some (.int (-1))) 336 I L R) : wkB l G (d + 1) n_X9_call Q 16 [.ref 292, .int a1, .int a2, wkU, wkU] [] I L R :=
  bb_lift (fun _ => q_iconst (n := -1) (zd (i := .iconst (-1)) (n := 1) (by decide +kernel)) rfl) <|
  (fun lv hl => q_iret (zd (i := .ireturn) (n := 1) (by decide +kernel)) rfl rfl (Nat.le_refl _) (Nat.le_refl _) hQ)
theorem w_X9_call_18 {Q : qQ} {I : qMI} {L : qML} {R : qMR} {a1 : Int32} {a2 : Int32} {P : qMI → qML → Prop} (hc : wkV l G d n_X9_copies [.ref 292] I L R P) (kk : ∀ I' L', P I' L' → wkB l G (d + 1) n_X9_call Q 22 [.ref 292, .int a1, .int a2, wkU, wkU] [] I' L' R) : wkB l G (d + 1) n_X9_call Q 18 [.ref 292, .int a1, .int a2, wkU, wkU] [] I L R :=
  bb_aload_n (n := 0) (i := 0) (zd (i := .aload_n 0) (n := 1) (by decide +kernel)) rfl rfl <|
  bb_callVV (idx := 375) (k := 292) (ci := 9) (N := n_X9_copies) (As := []) (st := []) (zd (i := .invokevirtual 375) (n := 3) (by decide +kernel)) to_X9_copies g1445 g1447 g67 (Nat.le_of_ble_eq_true rfl) (by decide +kernel) (by decide +kernel) (by decide +kernel) rfl rfl rfl hc kk
theorem w_X9_call_22 {Q : qQ} {I : qMI} {L : qML} {R : qMR} (hR : wkR R) {a1 : Int32} {a2 : Int32} (h1 : vp_in (24 + ((6 * a1) + a2)) 97) (kt : (I 324 (24 + ((6 * a1) + a2)).toNatClampNeg) = 0 → wkB l G (d + 1) n_X9_call Q 84 [.ref 292, .int a1, .int a2, .int ((6 * a1) + a2), .int (I 324 (24 + ((6 * a1) + a2)).toNatClampNeg)] [] I L R) (kf : ¬ (I 324 (24 + ((6 * a1) + a2)).toNatClampNeg) = 0 → wkB l G (d + 1) n_X9_call Q 45 [.ref 292, .int a1, .int a2, .int ((6 * a1) + a2), .int (I 324 (24 + ((6 * a1) + a2)).toNatClampNeg)] [] I L R) : wkB l G (d + 1) n_X9_call Q 22 [.ref 292, .int a1, .int a2, wkU, wkU] [] I L R :=
  bb_lift (fun _ => q_bipush (n := 6) (zd (i := .bipush (6)) (n := 2) (by decide +kernel)) rfl) <|
  bb_iload_n (n := 1) (i := 1) (zd (i := .iload_n 1) (n := 1) (by decide +kernel)) rfl rfl <|
  bb_lift (fun _ => q_imul (zd (i := .imul) (n := 1) (by decide +kernel))) <|
  bb_iload_n (n := 2) (i := 2) (zd (i := .iload_n 2) (n := 1) (by decide +kernel)) rfl rfl <|
  bb_lift (fun _ => q_iadd (zd (i := .iadd) (n := 1) (by decide +kernel))) <|
  bb_istore_n (n := 3) (i := 3) (zd (i := .istore_n 3) (n := 1) (by decide +kernel)) rfl (by decide +kernel) (wkNl_i rfl) <|
  bb_aload_n (n := 0) (i := 0) (zd (i := .aload_n 0) (n := 1) (by decide +kernel)) rfl rfl <|
  bb_getr (k := 292) (ci := 9) (j := 49) (idx := 113) (a := 324) (zd (i := .getfield 113) (n := 3) (by decide +kernel)) (by decide +kernel) (by decide +kernel) (by decide +kernel) (by decide +kernel) rfl g1177 (hR 49 (by decide)) <|
  bb_lift (fun _ => q_bipush (n := 24) (zd (i := .bipush (24)) (n := 2) (by decide +kernel)) rfl) <|
  bb_iload_n (n := 3) (i := 3) (zd (i := .iload_n 3) (n := 1) (by decide +kernel)) rfl rfl <|
  bb_lift (fun _ => q_iadd (zd (i := .iadd) (n := 1) (by decide +kernel))) <|
  bb_lift (fun _ => q_iald (k := 324) (zd (i := .iaload) (n := 1) (by decide +kernel)) (by decide +kernel) (by decide +kernel) h1) <|
  bb_istore (i := 4) (zd (i := .istore 4) (n := 2) (by decide +kernel)) (by decide +kernel) (wkNl_i rfl) <|
  bb_iload (i := 4) (zd (i := .iload 4) (n := 2) (by decide +kernel)) rfl <|
  (fun lv hl => q_if_eq (off := 42) (tgt := 84) (zd (i := .ifCond .eq (42)) (n := 3) (by decide +kernel)) (by decide) (fun h => (kt h) lv hl) (fun h => (kf h) lv hl))
theorem w_X9_call_45 {Q : qQ} {I : qMI} {L : qML} {R : qMR} (hR : wkR R) {a1 : Int32} {a2 : Int32} {a3 : Int32} {a4 : Int32} (h1 : vp_in a1 97) (h2 : vp_in 96 97) {P : Int32 → qMI → qML → Prop} (hc : wkI l G d n_X9_sees [.ref 292, .int (I 324 a1.toNatClampNeg), .int a2, .int (I 324 (96 : Int32).toNatClampNeg)] I L R P) (kk : ∀ y I' L', P y I' L' → wkB l G (d + 1) n_X9_call Q 63 [.ref 292, .int a1, .int a2, .int a3, .int a4] [.int y] I' L' R) : wkB l G (d + 1) n_X9_call Q 45 [.ref 292, .int a1, .int a2, .int a3, .int a4] [] I L R :=
  bb_aload_n (n := 0) (i := 0) (zd (i := .aload_n 0) (n := 1) (by decide +kernel)) rfl rfl <|
  bb_aload_n (n := 0) (i := 0) (zd (i := .aload_n 0) (n := 1) (by decide +kernel)) rfl rfl <|
  bb_getr (k := 292) (ci := 9) (j := 49) (idx := 113) (a := 324) (zd (i := .getfield 113) (n := 3) (by decide +kernel)) (by decide +kernel) (by decide +kernel) (by decide +kernel) (by decide +kernel) rfl g1177 (hR 49 (by decide)) <|
  bb_iload_n (n := 1) (i := 1) (zd (i := .iload_n 1) (n := 1) (by decide +kernel)) rfl rfl <|
  bb_lift (fun _ => q_iald (k := 324) (zd (i := .iaload) (n := 1) (by decide +kernel)) (by decide +kernel) (by decide +kernel) h1) <|
  bb_iload_n (n := 2) (i := 2) (zd (i := .iload_n 2) (n := 1) (by decide +kernel)) rfl rfl <|
  bb_aload_n (n := 0) (i := 0) (zd (i := .aload_n 0) (n := 1) (by decide +kernel)) rfl rfl <|
  bb_getr (k := 292) (ci := 9) (j := 49) (idx := 113) (a := 324) (zd (i := .getfield 113) (n := 3) (by decide +kernel)) (by decide +kernel) (by decide +kernel) (by decide +kernel) (by decide +kernel) rfl g1177 (hR 49 (by decide)) <|
  bb_lift (fun _ => q_bipush (n := 96) (zd (i := .bipush (96)) (n := 2) (by decide +kernel)) rfl) <|
  bb_lift (fun _ => q_iald (k := 324) (zd (i := .iaload) (n := 1) (by decide +kernel)) (by decide +kernel) (by decide +kernel) h2) <|
  bb_callVI (idx := 352) (k := 292) (ci := 9) (N := n_X9_sees) (As := [.int (I 324 a1.toNatClampNeg), .int a2, .int (I 324 (96 : Int32).toNatClampNeg)]) (st := []) (zd (i := .invokevirtual 352) (n := 3) (by decide +kernel)) to_X9_sees g1449 g1451 g68 (Nat.le_of_ble_eq_true rfl) (by decide +kernel) (by decide +kernel) (by decide +kernel) rfl rfl rfl hc kk
theorem w_X9_call_63 {Q : qQ} {I : qMI} {L : qML} {R : qMR} {a1 : Int32} {a2 : Int32} {a3 : Int32} {a4 : Int32} {s0 : Int32} (kt : s0 = 0 → wkB l G (d + 1) n_X9_call Q 84 [.ref 292, .int a1, .int a2, .int a3, .int a4] [] I L R) (kf : ¬ s0 = 0 → wkB l G (d + 1) n_X9_call Q 66 [.ref 292, .int a1, .int a2, .int a3, .int a4] [] I L R) : wkB l G (d + 1) n_X9_call Q 63 [.ref 292, .int a1, .int a2, .int a3, .int a4] [.int s0] I L R :=
  (fun lv hl => q_if_eq (off := 21) (tgt := 84) (zd (i := .ifCond .eq (21)) (n := 3) (by decide +kernel)) (by decide) (fun h => (kt h) lv hl) (fun h => (kf h) lv hl))
theorem w_X9_call_66 {Q : qQ} {I : qMI} {L : qML} {R : qMR} (hR : wkR R) {a1 : Int32} {a2 : Int32} {a3 : Int32} {a4 : Int32} (h1 : vp_in (6 + a1) 97) (kt : ((I 324 (6 + a1).toNatClampNeg) + a4) ≤ 99999 → wkB l G (d + 1) n_X9_call Q 87 [.ref 292, .int a1, .int a2, .int a3, .int a4] [] I L R) (kf : ¬ ((I 324 (6 + a1).toNatClampNeg) + a4) ≤ 99999 → wkB l G (d + 1) n_X9_call Q 84 [.ref 292, .int a1, .int a2, .int a3, .int a4] [] I L R) : wkB l G (d + 1) n_X9_call Q 66 [.ref 292, .int a1, .int a2, .int a3, .int a4] [] I L R :=
  bb_aload_n (n := 0) (i := 0) (zd (i := .aload_n 0) (n := 1) (by decide +kernel)) rfl rfl <|
  bb_getr (k := 292) (ci := 9) (j := 49) (idx := 113) (a := 324) (zd (i := .getfield 113) (n := 3) (by decide +kernel)) (by decide +kernel) (by decide +kernel) (by decide +kernel) (by decide +kernel) rfl g1177 (hR 49 (by decide)) <|
  bb_lift (fun _ => q_bipush (n := 6) (zd (i := .bipush (6)) (n := 2) (by decide +kernel)) rfl) <|
  bb_iload_n (n := 1) (i := 1) (zd (i := .iload_n 1) (n := 1) (by decide +kernel)) rfl rfl <|
  bb_lift (fun _ => q_iadd (zd (i := .iadd) (n := 1) (by decide +kernel))) <|
  bb_lift (fun _ => q_iald (k := 324) (zd (i := .iaload) (n := 1) (by decide +kernel)) (by decide +kernel) (by decide +kernel) h1) <|
  bb_iload (i := 4) (zd (i := .iload 4) (n := 2) (by decide +kernel)) rfl <|
  bb_lift (fun _ => q_iadd (zd (i := .iadd) (n := 1) (by decide +kernel))) <|
  bb_lift (fun _ => q_ldcw (n := 351) (zd (i := .ldc_w 351) (n := 3) (by decide +kernel)) g1534) <|
  (fun lv hl => q_icmp_le (off := 6) (tgt := 87) (zd (i := .if_icmp .le (6)) (n := 3) (by decide +kernel)) (by decide) (fun h => (kt h) lv hl) (fun h => (kf h) lv hl))
theorem w_X9_call_84 {Q : qQ} {I : qMI} {L : qML} {R : qMR} {a1 : Int32} {a2 : Int32} {a3 : Int32} {a4 : Int32} (hQ : Q (some (.int (-2))) 336 I L R) : wkB l G (d + 1) n_X9_call Q 84 [.ref 292, .int a1, .int a2, .int a3, .int a4] [] I L R :=
  bb_lift (fun _ => q_bipush (n := -2) (zd (i := .bipush (-2)) (n := 2) (by decide +kernel)) rfl) <|
  (fun lv hl => q_iret (zd (i := .ireturn) (n := 1) (by decide +kernel)) rfl rfl (Nat.le_refl _) (Nat.le_refl _) hQ)
theorem w_X9_call_87 {Q : qQ} {I : qMI} {L : qML} {R : qMR} (hR : wkR R) {a1 : Int32} {a2 : Int32} {a3 : Int32} {a4 : Int32} (h1 : vp_in (6 + a1) 97) (h2 : vp_in (6 + a1) 97) (h3 : vp_in (24 + a3) 97) (h4 : vp_in (60 + a3) 97) {P : qMI → qML → Prop} (hc : wkV l G d n_X9_records [.ref 292] (qUp (qUp (qUp I 324 (6 + a1).toNatClampNeg ((I 324 (6 + a1).toNatClampNeg) + a4)) 324 (24 + a3).toNatClampNeg 0) 324 (60 + a3).toNatClampNeg 0) L R P) (kk : ∀ I' L', P I' L' → wkB l G (d + 1) n_X9_call Q 125 [.ref 292, .int a1, .int a2, .int a3, .int a4] [] I' L' R) : wkB l G (d + 1) n_X9_call Q 87 [.ref 292, .int a1, .int a2, .int a3, .int a4] [] I L R :=
  bb_aload_n (n := 0) (i := 0) (zd (i := .aload_n 0) (n := 1) (by decide +kernel)) rfl rfl <|
  bb_getr (k := 292) (ci := 9) (j := 49) (idx := 113) (a := 324) (zd (i := .getfield 113) (n := 3) (by decide +kernel)) (by decide +kernel) (by decide +kernel) (by decide +kernel) (by decide +kernel) rfl g1177 (hR 49 (by decide)) <|
  bb_lift (fun _ => q_bipush (n := 6) (zd (i := .bipush (6)) (n := 2) (by decide +kernel)) rfl) <|
  bb_iload_n (n := 1) (i := 1) (zd (i := .iload_n 1) (n := 1) (by decide +kernel)) rfl rfl <|
  bb_lift (fun _ => q_iadd (zd (i := .iadd) (n := 1) (by decide +kernel))) <|
  bb_lift (fun _ => q_dup2 (zd (i := .dup2) (n := 1) (by decide +kernel)) rfl rfl) <|
  bb_lift (fun _ => q_iald (k := 324) (zd (i := .iaload) (n := 1) (by decide +kernel)) (by decide +kernel) (by decide +kernel) h1) <|
  bb_iload (i := 4) (zd (i := .iload 4) (n := 2) (by decide +kernel)) rfl <|
  bb_lift (fun _ => q_iadd (zd (i := .iadd) (n := 1) (by decide +kernel))) <|
  bb_lift (fun _ => q_iast (k := 324) (zd (i := .iastore) (n := 1) (by decide +kernel)) (by decide +kernel) (by decide +kernel) h2) <|
  bb_aload_n (n := 0) (i := 0) (zd (i := .aload_n 0) (n := 1) (by decide +kernel)) rfl rfl <|
  bb_getr (k := 292) (ci := 9) (j := 49) (idx := 113) (a := 324) (zd (i := .getfield 113) (n := 3) (by decide +kernel)) (by decide +kernel) (by decide +kernel) (by decide +kernel) (by decide +kernel) rfl g1177 (hR 49 (by decide)) <|
  bb_lift (fun _ => q_bipush (n := 24) (zd (i := .bipush (24)) (n := 2) (by decide +kernel)) rfl) <|
  bb_iload_n (n := 3) (i := 3) (zd (i := .iload_n 3) (n := 1) (by decide +kernel)) rfl rfl <|
  bb_lift (fun _ => q_iadd (zd (i := .iadd) (n := 1) (by decide +kernel))) <|
  bb_lift (fun _ => q_iconst (n := 0) (zd (i := .iconst (0)) (n := 1) (by decide +kernel)) rfl) <|
  bb_lift (fun _ => q_iast (k := 324) (zd (i := .iastore) (n := 1) (by decide +kernel)) (by decide +kernel) (by decide +kernel) h3) <|
  bb_aload_n (n := 0) (i := 0) (zd (i := .aload_n 0) (n := 1) (by decide +kernel)) rfl rfl <|
  bb_getr (k := 292) (ci := 9) (j := 49) (idx := 113) (a := 324) (zd (i := .getfield 113) (n := 3) (by decide +kernel)) (by decide +kernel) (by decide +kernel) (by decide +kernel) (by decide +kernel) rfl g1177 (hR 49 (by decide)) <|
  bb_lift (fun _ => q_bipush (n := 60) (zd (i := .bipush (60)) (n := 2) (by decide +kernel)) rfl) <|
  bb_iload_n (n := 3) (i := 3) (zd (i := .iload_n 3) (n := 1) (by decide +kernel)) rfl rfl <|
  bb_lift (fun _ => q_iadd (zd (i := .iadd) (n := 1) (by decide +kernel))) <|
  bb_lift (fun _ => q_iconst (n := 0) (zd (i := .iconst (0)) (n := 1) (by decide +kernel)) rfl) <|
  bb_lift (fun _ => q_iast (k := 324) (zd (i := .iastore) (n := 1) (by decide +kernel)) (by decide +kernel) (by decide +kernel) h4) <|
  bb_aload_n (n := 0) (i := 0) (zd (i := .aload_n 0) (n := 1) (by decide +kernel)) rfl rfl <|
  bb_callVV (idx := 390) (k := 292) (ci := 9) (N := n_X9_records) (As := []) (st := []) (zd (i := .invokevirtual 390) (n := 3) (by decide +kernel)) to_X9_records g1526 g1528 g81 (Nat.le_of_ble_eq_true rfl) (by decide +kernel) (by decide +kernel) (by decide +kernel) rfl rfl rfl hc kk
theorem w_X9_call_125 {Q : qQ} {I : qMI} {L : qML} {R : qMR} {a1 : Int32} {a2 : Int32} {a3 : Int32} {a4 : Int32} (hQ : Q (some (.int a4)) 336 I L R) : wkB l G (d + 1) n_X9_call Q 125 [.ref 292, .int a1, .int a2, .int a3, .int a4] [] I L R :=
  bb_iload (i := 4) (zd (i := .iload 4) (n := 2) (by decide +kernel)) rfl <|
  (fun lv hl => q_iret (zd (i := .ireturn) (n := 1) (by decide +kernel)) rfl rfl (Nat.le_refl _) (Nat.le_refl _) hQ)
theorem w_X9_move_0 {Q : qQ} {I : qMI} {L : qML} {R : qMR} {a1 : Int32} {a2 : Int32} {P : Int32 → qMI → qML → Prop} (hc : wkI l G d n_X9_isSeat [.ref 292, .int a1] I L R P) (kk : ∀ y I' L', P y I' L' → wkB l G (d + 1) n_X9_move Q 5 [.ref 292, .int a1, .int a2] [.int y] I' L' R) : wkB l G (d + 1) n_X9_move Q 0 [.ref 292, .int a1, .int a2] [] I L R :=
  bb_aload_n (n := 0) (i := 0) (zd (i := .aload_n 0) (n := 1) (by decide +kernel)) rfl rfl <|
  bb_iload_n (n := 1) (i := 1) (zd (i := .iload_n 1) (n := 1) (by decide +kernel)) rfl rfl <|
  bb_callVI (idx := 378) (k := 292) (ci := 9) (N := n_X9_isSeat) (As := [.int a1]) (st := []) (zd (i := .invokevirtual 378) (n := 3) (by decide +kernel)) to_X9_isSeat g1487 g1489 g75 (Nat.le_of_ble_eq_true rfl) (by decide +kernel) (by decide +kernel) (by decide +kernel) rfl rfl rfl hc kk
theorem w_X9_move_5 {Q : qQ} {I : qMI} {L : qML} {R : qMR} {a1 : Int32} {a2 : Int32} {s0 : Int32} (kt : s0 = 0 → wkB l G (d + 1) n_X9_move Q 25 [.ref 292, .int a1, .int a2] [] I L R) (kf : ¬ s0 = 0 → wkB l G (d + 1) n_X9_move Q 8 [.ref 292, .int a1, .int a2] [] I L R) : wkB l G (d + 1) n_X9_move Q 5 [.ref 292, .int a1, .int a2] [.int s0] I L R :=
  (fun lv hl => q_if_eq (off := 20) (tgt := 25) (zd (i := .ifCond .eq (20)) (n := 3) (by decide +kernel)) (by decide) (fun h => (kt h) lv hl) (fun h => (kf h) lv hl))
theorem w_X9_move_8 {Q : qQ} {I : qMI} {L : qML} {R : qMR} {a1 : Int32} {a2 : Int32} {P : Int32 → qMI → qML → Prop} (hc : wkI l G d n_X9_isX [.int a2] I L R P) (kk : ∀ y I' L', P y I' L' → wkB l G (d + 1) n_X9_move Q 12 [.ref 292, .int a1, .int a2] [.int y] I' L' R) : wkB l G (d + 1) n_X9_move Q 8 [.ref 292, .int a1, .int a2] [] I L R :=
  bb_iload_n (n := 2) (i := 2) (zd (i := .iload_n 2) (n := 1) (by decide +kernel)) rfl rfl <|
  bb_callSI (idx := 387) (N := n_X9_isX) (As := [.int a2]) (st := []) (zd (i := .invokestatic 387) (n := 3) (by decide +kernel)) to_X9_isX g1507 g1508 (Nat.le_of_ble_eq_true rfl) rfl rfl hc kk
theorem w_X9_move_12 {Q : qQ} {I : qMI} {L : qML} {R : qMR} {a1 : Int32} {a2 : Int32} {s0 : Int32} (kt : s0 = 0 → wkB l G (d + 1) n_X9_move Q 25 [.ref 292, .int a1, .int a2] [] I L R) (kf : ¬ s0 = 0 → wkB l G (d + 1) n_X9_move Q 15 [.ref 292, .int a1, .int a2] [] I L R) : wkB l G (d + 1) n_X9_move Q 12 [.ref 292, .int a1, .int a2] [.int s0] I L R :=
  (fun lv hl => q_if_eq (off := 13) (tgt := 25) (zd (i := .ifCond .eq (13)) (n := 3) (by decide +kernel)) (by decide) (fun h => (kt h) lv hl) (fun h => (kf h) lv hl))
theorem w_X9_move_15 {Q : qQ} {I : qMI} {L : qML} {R : qMR} (hR : wkR R) {a1 : Int32} {a2 : Int32} (h1 : vp_in a1 97) (kt : ¬ (I 323 a1.toNatClampNeg) = a2 → wkB l G (d + 1) n_X9_move Q 27 [.ref 292, .int a1, .int a2] [] I L R) (kf : (I 323 a1.toNatClampNeg) = a2 → wkB l G (d + 1) n_X9_move Q 25 [.ref 292, .int a1, .int a2] [] I L R) : wkB l G (d + 1) n_X9_move Q 15 [.ref 292, .int a1, .int a2] [] I L R :=
  bb_aload_n (n := 0) (i := 0) (zd (i := .aload_n 0) (n := 1) (by decide +kernel)) rfl rfl <|
  bb_getr (k := 292) (ci := 9) (j := 48) (idx := 110) (a := 323) (zd (i := .getfield 110) (n := 3) (by decide +kernel)) (by decide +kernel) (by decide +kernel) (by decide +kernel) (by decide +kernel) rfl g1176 (hR 48 (by decide)) <|
  bb_iload_n (n := 1) (i := 1) (zd (i := .iload_n 1) (n := 1) (by decide +kernel)) rfl rfl <|
  bb_lift (fun _ => q_iald (k := 323) (zd (i := .iaload) (n := 1) (by decide +kernel)) (by decide +kernel) (by decide +kernel) h1) <|
  bb_iload_n (n := 2) (i := 2) (zd (i := .iload_n 2) (n := 1) (by decide +kernel)) rfl rfl <|
  (fun lv hl => q_icmp_ne (off := 5) (tgt := 27) (zd (i := .if_icmp .ne (5)) (n := 3) (by decide +kernel)) (by decide) (fun h => (kt h) lv hl) (fun h => (kf h) lv hl))
theorem w_X9_move_25 {Q : qQ} {I : qMI} {L : qML} {R : qMR} {a1 : Int32} {a2 : Int32} (hQ : Q (some (.int 0)) 336 I L R) : wkB l G (d + 1) n_X9_move Q 25 [.ref 292, .int a1, .int a2] [] I L R :=
  bb_lift (fun _ => q_iconst (n := 0) (zd (i := .iconst (0)) (n := 1) (by decide +kernel)) rfl) <|
  (fun lv hl => q_iret (zd (i := .ireturn) (n := 1) (by decide +kernel)) rfl rfl (Nat.le_refl _) (Nat.le_refl _) hQ)
theorem w_X9_move_27 {Q : qQ} {I : qMI} {L : qML} {R : qMR} {a1 : Int32} {a2 : Int32} {P : qMI → qML → Prop} (hc : wkV l G d n_X9_copies [.ref 292] I L R P) (kk : ∀ I' L', P I' L' → wkB l G (d + 1) n_X9_move Q 31 [.ref 292, .int a1, .int a2] [] I' L' R) : wkB l G (d + 1) n_X9_move Q 27 [.ref 292, .int a1, .int a2] [] I L R :=
  bb_aload_n (n := 0) (i := 0) (zd (i := .aload_n 0) (n := 1) (by decide +kernel)) rfl rfl <|
  bb_callVV (idx := 375) (k := 292) (ci := 9) (N := n_X9_copies) (As := []) (st := []) (zd (i := .invokevirtual 375) (n := 3) (by decide +kernel)) to_X9_copies g1445 g1447 g67 (Nat.le_of_ble_eq_true rfl) (by decide +kernel) (by decide +kernel) (by decide +kernel) rfl rfl rfl hc kk
theorem w_X9_move_31 {Q : qQ} {I : qMI} {L : qML} {R : qMR} (hR : wkR R) {a1 : Int32} {a2 : Int32} (h1 : vp_in a1 97) {P : qMI → qML → Prop} (hc : wkV l G d n_X9_records [.ref 292] (qUp I 324 a1.toNatClampNeg a2) L R P) (kk : ∀ I' L', P I' L' → wkB l G (d + 1) n_X9_move Q 42 [.ref 292, .int a1, .int a2] [] I' L' R) : wkB l G (d + 1) n_X9_move Q 31 [.ref 292, .int a1, .int a2] [] I L R :=
  bb_aload_n (n := 0) (i := 0) (zd (i := .aload_n 0) (n := 1) (by decide +kernel)) rfl rfl <|
  bb_getr (k := 292) (ci := 9) (j := 49) (idx := 113) (a := 324) (zd (i := .getfield 113) (n := 3) (by decide +kernel)) (by decide +kernel) (by decide +kernel) (by decide +kernel) (by decide +kernel) rfl g1177 (hR 49 (by decide)) <|
  bb_iload_n (n := 1) (i := 1) (zd (i := .iload_n 1) (n := 1) (by decide +kernel)) rfl rfl <|
  bb_iload_n (n := 2) (i := 2) (zd (i := .iload_n 2) (n := 1) (by decide +kernel)) rfl rfl <|
  bb_lift (fun _ => q_iast (k := 324) (zd (i := .iastore) (n := 1) (by decide +kernel)) (by decide +kernel) (by decide +kernel) h1) <|
  bb_aload_n (n := 0) (i := 0) (zd (i := .aload_n 0) (n := 1) (by decide +kernel)) rfl rfl <|
  bb_callVV (idx := 390) (k := 292) (ci := 9) (N := n_X9_records) (As := []) (st := []) (zd (i := .invokevirtual 390) (n := 3) (by decide +kernel)) to_X9_records g1526 g1528 g81 (Nat.le_of_ble_eq_true rfl) (by decide +kernel) (by decide +kernel) (by decide +kernel) rfl rfl rfl hc kk
theorem w_X9_move_42 {Q : qQ} {I : qMI} {L : qML} {R : qMR} {a1 : Int32} {a2 : Int32} (hQ : Q (some (.int 1)) 336 I L R) : wkB l G (d + 1) n_X9_move Q 42 [.ref 292, .int a1, .int a2] [] I L R :=
  bb_lift (fun _ => q_iconst (n := 1) (zd (i := .iconst (1)) (n := 1) (by decide +kernel)) rfl) <|
  (fun lv hl => q_iret (zd (i := .ireturn) (n := 1) (by decide +kernel)) rfl rfl (Nat.le_refl _) (Nat.le_refl _) hQ)
theorem w_X9_hours_0 {Q : qQ} {I : qMI} {L : qML} {R : qMR} {a1 : Int32} {P : Int32 → qMI → qML → Prop} (hc : wkI l G d n_X9_isLong [.int a1] I L R P) (kk : ∀ y I' L', P y I' L' → wkB l G (d + 1) n_X9_hours Q 4 [.ref 292, .int a1] [.int y] I' L' R) : wkB l G (d + 1) n_X9_hours Q 0 [.ref 292, .int a1] [] I L R :=
  bb_iload_n (n := 1) (i := 1) (zd (i := .iload_n 1) (n := 1) (by decide +kernel)) rfl rfl <|
  bb_callSI (idx := 393) (N := n_X9_isLong) (As := [.int a1]) (st := []) (zd (i := .invokestatic 393) (n := 3) (by decide +kernel)) to_X9_isLong g1543 g1544 (Nat.le_of_ble_eq_true rfl) rfl rfl hc kk
theorem w_X9_hours_4 {Q : qQ} {I : qMI} {L : qML} {R : qMR} {a1 : Int32} {s0 : Int32} (kt : ¬ s0 = 0 → wkB l G (d + 1) n_X9_hours Q 9 [.ref 292, .int a1] [] I L R) (kf : s0 = 0 → wkB l G (d + 1) n_X9_hours Q 7 [.ref 292, .int a1] [] I L R) : wkB l G (d + 1) n_X9_hours Q 4 [.ref 292, .int a1] [.int s0] I L R :=
  (fun lv hl => q_if_ne (off := 5) (tgt := 9) (zd (i := .ifCond .ne (5)) (n := 3) (by decide +kernel)) (by decide) (fun h => (kt h) lv hl) (fun h => (kf h) lv hl))
theorem w_X9_hours_7 {Q : qQ} {I : qMI} {L : qML} {R : qMR} {a1 : Int32} (hQ : Q (some (.int (-1))) 336 I L R) : wkB l G (d + 1) n_X9_hours Q 7 [.ref 292, .int a1] [] I L R :=
  bb_lift (fun _ => q_iconst (n := -1) (zd (i := .iconst (-1)) (n := 1) (by decide +kernel)) rfl) <|
  (fun lv hl => q_iret (zd (i := .ireturn) (n := 1) (by decide +kernel)) rfl rfl (Nat.le_refl _) (Nat.le_refl _) hQ)
theorem w_X9_hours_9 {Q : qQ} {I : qMI} {L : qML} {R : qMR} {a1 : Int32} (kt : ¬ a1 = 0 → wkB l G (d + 1) n_X9_hours Q 21 [.ref 292, .int a1] [] I L R) (kf : a1 = 0 → wkB l G (d + 1) n_X9_hours Q 13 [.ref 292, .int a1] [] I L R) : wkB l G (d + 1) n_X9_hours Q 9 [.ref 292, .int a1] [] I L R :=
  bb_iload_n (n := 1) (i := 1) (zd (i := .iload_n 1) (n := 1) (by decide +kernel)) rfl rfl <|
  (fun lv hl => q_if_ne (off := 11) (tgt := 21) (zd (i := .ifCond .ne (11)) (n := 3) (by decide +kernel)) (by decide) (fun h => (kt h) lv hl) (fun h => (kf h) lv hl))
theorem w_X9_hours_13 {Q : qQ} {I : qMI} {L : qML} {R : qMR} (hR : wkR R) {a1 : Int32} (h1 : vp_in 96 97) (hQ : Q (some (.int (I 323 (96 : Int32).toNatClampNeg))) 336 I L R) : wkB l G (d + 1) n_X9_hours Q 13 [.ref 292, .int a1] [] I L R :=
  bb_aload_n (n := 0) (i := 0) (zd (i := .aload_n 0) (n := 1) (by decide +kernel)) rfl rfl <|
  bb_getr (k := 292) (ci := 9) (j := 48) (idx := 110) (a := 323) (zd (i := .getfield 110) (n := 3) (by decide +kernel)) (by decide +kernel) (by decide +kernel) (by decide +kernel) (by decide +kernel) rfl g1176 (hR 48 (by decide)) <|
  bb_lift (fun _ => q_bipush (n := 96) (zd (i := .bipush (96)) (n := 2) (by decide +kernel)) rfl) <|
  bb_lift (fun _ => q_iald (k := 323) (zd (i := .iaload) (n := 1) (by decide +kernel)) (by decide +kernel) (by decide +kernel) h1) <|
  (fun lv hl => q_iret (zd (i := .ireturn) (n := 1) (by decide +kernel)) rfl rfl (Nat.le_refl _) (Nat.le_refl _) hQ)
theorem w_X9_hours_21 {Q : qQ} {I : qMI} {L : qML} {R : qMR} {a1 : Int32} {P : qMI → qML → Prop} (hc : wkV l G d n_X9_copies [.ref 292] I L R P) (kk : ∀ I' L', P I' L' → wkB l G (d + 1) n_X9_hours Q 25 [.ref 292, .int a1] [] I' L' R) : wkB l G (d + 1) n_X9_hours Q 21 [.ref 292, .int a1] [] I L R :=
  bb_aload_n (n := 0) (i := 0) (zd (i := .aload_n 0) (n := 1) (by decide +kernel)) rfl rfl <|
  bb_callVV (idx := 375) (k := 292) (ci := 9) (N := n_X9_copies) (As := []) (st := []) (zd (i := .invokevirtual 375) (n := 3) (by decide +kernel)) to_X9_copies g1445 g1447 g67 (Nat.le_of_ble_eq_true rfl) (by decide +kernel) (by decide +kernel) (by decide +kernel) rfl rfl rfl hc kk
theorem w_X9_hours_25 {Q : qQ} {I : qMI} {L : qML} {R : qMR} {a1 : Int32} {P : qMI → qML → Prop} (hc : wkV l G d n_X9_goes [.ref 292, .int a1] I L R P) (kk : ∀ I' L', P I' L' → wkB l G (d + 1) n_X9_hours Q 30 [.ref 292, .int a1] [] I' L' R) : wkB l G (d + 1) n_X9_hours Q 25 [.ref 292, .int a1] [] I L R :=
  bb_aload_n (n := 0) (i := 0) (zd (i := .aload_n 0) (n := 1) (by decide +kernel)) rfl rfl <|
  bb_iload_n (n := 1) (i := 1) (zd (i := .iload_n 1) (n := 1) (by decide +kernel)) rfl rfl <|
  bb_callVV (idx := 396) (k := 292) (ci := 9) (N := n_X9_goes) (As := [.int a1]) (st := []) (zd (i := .invokevirtual 396) (n := 3) (by decide +kernel)) to_X9_goes g1546 g1548 g82 (Nat.le_of_ble_eq_true rfl) (by decide +kernel) (by decide +kernel) (by decide +kernel) rfl rfl rfl hc kk
theorem w_X9_hours_30 {Q : qQ} {I : qMI} {L : qML} {R : qMR} {a1 : Int32} {P : qMI → qML → Prop} (hc : wkV l G d n_X9_records [.ref 292] I L R P) (kk : ∀ I' L', P I' L' → wkB l G (d + 1) n_X9_hours Q 34 [.ref 292, .int a1] [] I' L' R) : wkB l G (d + 1) n_X9_hours Q 30 [.ref 292, .int a1] [] I L R :=
  bb_aload_n (n := 0) (i := 0) (zd (i := .aload_n 0) (n := 1) (by decide +kernel)) rfl rfl <|
  bb_callVV (idx := 390) (k := 292) (ci := 9) (N := n_X9_records) (As := []) (st := []) (zd (i := .invokevirtual 390) (n := 3) (by decide +kernel)) to_X9_records g1526 g1528 g81 (Nat.le_of_ble_eq_true rfl) (by decide +kernel) (by decide +kernel) (by decide +kernel) rfl rfl rfl hc kk
theorem w_X9_hours_34 {Q : qQ} {I : qMI} {L : qML} {R : qMR} (hR : wkR R) {a1 : Int32} (h1 : vp_in 96 97) (hQ : Q (some (.int (I 323 (96 : Int32).toNatClampNeg))) 336 I L R) : wkB l G (d + 1) n_X9_hours Q 34 [.ref 292, .int a1] [] I L R :=
  bb_aload_n (n := 0) (i := 0) (zd (i := .aload_n 0) (n := 1) (by decide +kernel)) rfl rfl <|
  bb_getr (k := 292) (ci := 9) (j := 48) (idx := 110) (a := 323) (zd (i := .getfield 110) (n := 3) (by decide +kernel)) (by decide +kernel) (by decide +kernel) (by decide +kernel) (by decide +kernel) rfl g1176 (hR 48 (by decide)) <|
  bb_lift (fun _ => q_bipush (n := 96) (zd (i := .bipush (96)) (n := 2) (by decide +kernel)) rfl) <|
  bb_lift (fun _ => q_iald (k := 323) (zd (i := .iaload) (n := 1) (by decide +kernel)) (by decide +kernel) (by decide +kernel) h1) <|
  (fun lv hl => q_iret (zd (i := .ireturn) (n := 1) (by decide +kernel)) rfl rfl (Nat.le_refl _) (Nat.le_refl _) hQ)
theorem w_X9_undo_0 {Q : qQ} {I : qMI} {L : qML} {R : qMR}  (kt : ¬ (I 292 51) = 0 → wkB l G (d + 1) n_X9_undo Q 9 [.ref 292, wkU] [] I L R) (kf : (I 292 51) = 0 → wkB l G (d + 1) n_X9_undo Q 7 [.ref 292, wkU] [] I L R) : wkB l G (d + 1) n_X9_undo Q 0 [.ref 292, wkU] [] I L R :=
  bb_aload_n (n := 0) (i := 0) (zd (i := .aload_n 0) (n := 1) (by decide +kernel)) rfl rfl <|
  bb_geti (k := 292) (ci := 9) (j := 51) (idx := 248) (zd (i := .getfield 248) (n := 3) (by decide +kernel)) (by decide +kernel) (by decide +kernel) (by decide +kernel) (by decide +kernel) rfl g1179 <|
  (fun lv hl => q_if_ne (off := 5) (tgt := 9) (zd (i := .ifCond .ne (5)) (n := 3) (by decide +kernel)) (by decide) (fun h => (kt h) lv hl) (fun h => (kf h) lv hl))
theorem w_X9_undo_7 {Q : qQ} {I : qMI} {L : qML} {R : qMR}  (hQ : Q (some (.int 0)) 336 I L R) : wkB l G (d + 1) n_X9_undo Q 7 [.ref 292, wkU] [] I L R :=
  bb_lift (fun _ => q_iconst (n := 0) (zd (i := .iconst (0)) (n := 1) (by decide +kernel)) rfl) <|
  (fun lv hl => q_iret (zd (i := .ireturn) (n := 1) (by decide +kernel)) rfl rfl (Nat.le_refl _) (Nat.le_refl _) hQ)
theorem w_X9_undo_9 {Q : qQ} {I : qMI} {L : qML} {R : qMR}  (k : wkB l G (d + 1) n_X9_undo Q 21 [.ref 292, .int 0] [] (qUp I 292 51 ((I 292 51) - 1)) L R) : wkB l G (d + 1) n_X9_undo Q 9 [.ref 292, wkU] [] I L R :=
  bb_aload_n (n := 0) (i := 0) (zd (i := .aload_n 0) (n := 1) (by decide +kernel)) rfl rfl <|
  bb_lift (fun _ => q_dup (zd (i := .dup) (n := 1) (by decide +kernel)) rfl) <|
  bb_geti (k := 292) (ci := 9) (j := 51) (idx := 248) (zd (i := .getfield 248) (n := 3) (by decide +kernel)) (by decide +kernel) (by decide +kernel) (by decide +kernel) (by decide +kernel) rfl g1179 <|
  bb_lift (fun _ => q_iconst (n := 1) (zd (i := .iconst (1)) (n := 1) (by decide +kernel)) rfl) <|
  bb_lift (fun _ => q_isub (zd (i := .isub) (n := 1) (by decide +kernel))) <|
  bb_puti (k := 292) (ci := 9) (j := 51) (idx := 248) (zd (i := .putfield 248) (n := 3) (by decide +kernel)) (by decide +kernel) (by decide +kernel) (by decide +kernel) (by decide +kernel) g1179 rfl rfl <|
  bb_lift (fun _ => q_iconst (n := 0) (zd (i := .iconst (0)) (n := 1) (by decide +kernel)) rfl) <|
  bb_istore_n (n := 1) (i := 1) (zd (i := .istore_n 1) (n := 1) (by decide +kernel)) rfl (by decide +kernel) (wkNl_r rfl) <|
  k
theorem w_X9_undo_21 {Q : qQ} {I : qMI} {L : qML} {R : qMR} {a1 : Int32} (kt : 97 ≤ a1 → wkB l G (d + 1) n_X9_undo Q 53 [.ref 292, .int a1] [] I L R) (kf : ¬ 97 ≤ a1 → wkB l G (d + 1) n_X9_undo Q 27 [.ref 292, .int a1] [] I L R) : wkB l G (d + 1) n_X9_undo Q 21 [.ref 292, .int a1] [] I L R :=
  bb_iload_n (n := 1) (i := 1) (zd (i := .iload_n 1) (n := 1) (by decide +kernel)) rfl rfl <|
  bb_lift (fun _ => q_bipush (n := 97) (zd (i := .bipush (97)) (n := 2) (by decide +kernel)) rfl) <|
  (fun lv hl => q_icmp_ge (off := 29) (tgt := 53) (zd (i := .if_icmp .ge (29)) (n := 3) (by decide +kernel)) (by decide) (fun h => (kt h) lv hl) (fun h => (kf h) lv hl))
theorem w_X9_undo_27 {Q : qQ} {I : qMI} {L : qML} {R : qMR} (hR : wkR R) {a1 : Int32} (h1 : vp_in ((97 * (I 292 51)) + a1) 2910) (h2 : vp_in a1 97) (k : wkB l G (d + 1) n_X9_undo Q 21 [.ref 292, .int (a1 + 1)] [] (qUp I 323 a1.toNatClampNeg (I 325 ((97 * (I 292 51)) + a1).toNatClampNeg)) L R) : wkB l G (d + 1) n_X9_undo Q 27 [.ref 292, .int a1] [] I L R :=
  bb_aload_n (n := 0) (i := 0) (zd (i := .aload_n 0) (n := 1) (by decide +kernel)) rfl rfl <|
  bb_getr (k := 292) (ci := 9) (j := 48) (idx := 110) (a := 323) (zd (i := .getfield 110) (n := 3) (by decide +kernel)) (by decide +kernel) (by decide +kernel) (by decide +kernel) (by decide +kernel) rfl g1176 (hR 48 (by decide)) <|
  bb_iload_n (n := 1) (i := 1) (zd (i := .iload_n 1) (n := 1) (by decide +kernel)) rfl rfl <|
  bb_aload_n (n := 0) (i := 0) (zd (i := .aload_n 0) (n := 1) (by decide +kernel)) rfl rfl <|
  bb_getr (k := 292) (ci := 9) (j := 52) (idx := 116) (a := 325) (zd (i := .getfield 116) (n := 3) (by decide +kernel)) (by decide +kernel) (by decide +kernel) (by decide +kernel) (by decide +kernel) rfl g1180 (hR 52 (by decide)) <|
  bb_lift (fun _ => q_bipush (n := 97) (zd (i := .bipush (97)) (n := 2) (by decide +kernel)) rfl) <|
  bb_aload_n (n := 0) (i := 0) (zd (i := .aload_n 0) (n := 1) (by decide +kernel)) rfl rfl <|
  bb_geti (k := 292) (ci := 9) (j := 51) (idx := 248) (zd (i := .getfield 248) (n := 3) (by decide +kernel)) (by decide +kernel) (by decide +kernel) (by decide +kernel) (by decide +kernel) rfl g1179 <|
  bb_lift (fun _ => q_imul (zd (i := .imul) (n := 1) (by decide +kernel))) <|
  bb_iload_n (n := 1) (i := 1) (zd (i := .iload_n 1) (n := 1) (by decide +kernel)) rfl rfl <|
  bb_lift (fun _ => q_iadd (zd (i := .iadd) (n := 1) (by decide +kernel))) <|
  bb_lift (fun _ => q_iald (k := 325) (zd (i := .iaload) (n := 1) (by decide +kernel)) (by decide +kernel) (by decide +kernel) h1) <|
  bb_lift (fun _ => q_iast (k := 323) (zd (i := .iastore) (n := 1) (by decide +kernel)) (by decide +kernel) (by decide +kernel) h2) <|
  bb_iinc (i := 1) (n := 1) (zd (i := .iinc 1 (1)) (n := 3) (by decide +kernel)) rfl rfl (by decide +kernel) (wkNl_r rfl) <|
  bb_lift (fun _ => q_goto (off := -29) (tgt := 21) (zd (i := .goto (-29)) (n := 3) (by decide +kernel)) (by decide)) k
theorem w_X9_undo_53 {Q : qQ} {I : qMI} {L : qML} {R : qMR} {a1 : Int32} (hQ : Q (some (.int 1)) 336 I L R) : wkB l G (d + 1) n_X9_undo Q 53 [.ref 292, .int a1] [] I L R :=
  bb_lift (fun _ => q_iconst (n := 1) (zd (i := .iconst (1)) (n := 1) (by decide +kernel)) rfl) <|
  (fun lv hl => q_iret (zd (i := .ireturn) (n := 1) (by decide +kernel)) rfl rfl (Nat.le_refl _) (Nat.le_refl _) hQ)
theorem w_X9_hold_0 {Q : qQ} {I : qMI} {L : qML} {R : qMR} {a1 : Int32} {P : Int32 → qMI → qML → Prop} (hc : wkI l G d n_X9_in [.int a1, .int 0, .int 2] I L R P) (kk : ∀ y I' L', P y I' L' → wkB l G (d + 1) n_X9_hold Q 6 [.ref 292, .int a1, wkU] [.int y] I' L' R) : wkB l G (d + 1) n_X9_hold Q 0 [.ref 292, .int a1, wkU] [] I L R :=
  bb_iload_n (n := 1) (i := 1) (zd (i := .iload_n 1) (n := 1) (by decide +kernel)) rfl rfl <|
  bb_lift (fun _ => q_iconst (n := 0) (zd (i := .iconst (0)) (n := 1) (by decide +kernel)) rfl) <|
  bb_lift (fun _ => q_iconst (n := 2) (zd (i := .iconst (2)) (n := 1) (by decide +kernel)) rfl) <|
  bb_callSI (idx := 304) (N := n_X9_in) (As := [.int a1, .int 0, .int 2]) (st := []) (zd (i := .invokestatic 304) (n := 3) (by decide +kernel)) to_X9_in g1442 g1443 (Nat.le_of_ble_eq_true rfl) rfl rfl hc kk
theorem w_X9_hold_6 {Q : qQ} {I : qMI} {L : qML} {R : qMR} {a1 : Int32} {s0 : Int32} (kt : ¬ s0 = 0 → wkB l G (d + 1) n_X9_hold Q 11 [.ref 292, .int a1, wkU] [] I L R) (kf : s0 = 0 → wkB l G (d + 1) n_X9_hold Q 9 [.ref 292, .int a1, wkU] [] I L R) : wkB l G (d + 1) n_X9_hold Q 6 [.ref 292, .int a1, wkU] [.int s0] I L R :=
  (fun lv hl => q_if_ne (off := 5) (tgt := 11) (zd (i := .ifCond .ne (5)) (n := 3) (by decide +kernel)) (by decide) (fun h => (kt h) lv hl) (fun h => (kf h) lv hl))
theorem w_X9_hold_9 {Q : qQ} {I : qMI} {L : qML} {R : qMR} {a1 : Int32} (hQ : Q (some (.int 0)) 336 I L R) : wkB l G (d + 1) n_X9_hold Q 9 [.ref 292, .int a1, wkU] [] I L R :=
  bb_lift (fun _ => q_iconst (n := 0) (zd (i := .iconst (0)) (n := 1) (by decide +kernel)) rfl) <|
  (fun lv hl => q_iret (zd (i := .ireturn) (n := 1) (by decide +kernel)) rfl rfl (Nat.le_refl _) (Nat.le_refl _) hQ)
theorem w_X9_hold_11 {Q : qQ} {I : qMI} {L : qML} {R : qMR} (hR : wkR R) {a1 : Int32} (h1 : vp_in a1 3) (k : wkB l G (d + 1) n_X9_hold Q 20 [.ref 292, .int a1, .int 0] [] (qUp I 334 a1.toNatClampNeg (vp_nar .boolean 1)) L R) : wkB l G (d + 1) n_X9_hold Q 11 [.ref 292, .int a1, wkU] [] I L R :=
  bb_aload_n (n := 0) (i := 0) (zd (i := .aload_n 0) (n := 1) (by decide +kernel)) rfl rfl <|
  bb_getr (k := 292) (ci := 9) (j := 63) (idx := 143) (a := 334) (zd (i := .getfield 143) (n := 3) (by decide +kernel)) (by decide +kernel) (by decide +kernel) (by decide +kernel) (by decide +kernel) rfl g1191 (hR 63 (by decide)) <|
  bb_iload_n (n := 1) (i := 1) (zd (i := .iload_n 1) (n := 1) (by decide +kernel)) rfl rfl <|
  bb_lift (fun _ => q_iconst (n := 1) (zd (i := .iconst (1)) (n := 1) (by decide +kernel)) rfl) <|
  bb_lift (fun _ => q_zast (k := 334) (zd (i := .bastore) (n := 1) (by decide +kernel)) (by decide +kernel) (by decide +kernel) h1) <|
  bb_lift (fun _ => q_iconst (n := 0) (zd (i := .iconst (0)) (n := 1) (by decide +kernel)) rfl) <|
  bb_istore_n (n := 2) (i := 2) (zd (i := .istore_n 2) (n := 1) (by decide +kernel)) rfl (by decide +kernel) (wkNl_i rfl) <|
  k
theorem w_X9_hold_20 {Q : qQ} {I : qMI} {L : qML} {R : qMR} {a1 : Int32} {a2 : Int32} (kt : 97 ≤ a2 → wkB l G (d + 1) n_X9_hold Q 49 [.ref 292, .int a1, .int a2] [] I L R) (kf : ¬ 97 ≤ a2 → wkB l G (d + 1) n_X9_hold Q 26 [.ref 292, .int a1, .int a2] [] I L R) : wkB l G (d + 1) n_X9_hold Q 20 [.ref 292, .int a1, .int a2] [] I L R :=
  bb_iload_n (n := 2) (i := 2) (zd (i := .iload_n 2) (n := 1) (by decide +kernel)) rfl rfl <|
  bb_lift (fun _ => q_bipush (n := 97) (zd (i := .bipush (97)) (n := 2) (by decide +kernel)) rfl) <|
  (fun lv hl => q_icmp_ge (off := 26) (tgt := 49) (zd (i := .if_icmp .ge (26)) (n := 3) (by decide +kernel)) (by decide) (fun h => (kt h) lv hl) (fun h => (kf h) lv hl))
theorem w_X9_hold_26 {Q : qQ} {I : qMI} {L : qML} {R : qMR} (hR : wkR R) {a1 : Int32} {a2 : Int32} (h1 : vp_in a2 97) (h2 : vp_in ((97 * a1) + a2) 291) (k : wkB l G (d + 1) n_X9_hold Q 20 [.ref 292, .int a1, .int (a2 + 1)] [] (qUp I 335 ((97 * a1) + a2).toNatClampNeg (I 323 a2.toNatClampNeg)) L R) : wkB l G (d + 1) n_X9_hold Q 26 [.ref 292, .int a1, .int a2] [] I L R :=
  bb_aload_n (n := 0) (i := 0) (zd (i := .aload_n 0) (n := 1) (by decide +kernel)) rfl rfl <|
  bb_getr (k := 292) (ci := 9) (j := 64) (idx := 146) (a := 335) (zd (i := .getfield 146) (n := 3) (by decide +kernel)) (by decide +kernel) (by decide +kernel) (by decide +kernel) (by decide +kernel) rfl g1192 (hR 64 (by decide)) <|
  bb_lift (fun _ => q_bipush (n := 97) (zd (i := .bipush (97)) (n := 2) (by decide +kernel)) rfl) <|
  bb_iload_n (n := 1) (i := 1) (zd (i := .iload_n 1) (n := 1) (by decide +kernel)) rfl rfl <|
  bb_lift (fun _ => q_imul (zd (i := .imul) (n := 1) (by decide +kernel))) <|
  bb_iload_n (n := 2) (i := 2) (zd (i := .iload_n 2) (n := 1) (by decide +kernel)) rfl rfl <|
  bb_lift (fun _ => q_iadd (zd (i := .iadd) (n := 1) (by decide +kernel))) <|
  bb_aload_n (n := 0) (i := 0) (zd (i := .aload_n 0) (n := 1) (by decide +kernel)) rfl rfl <|
  bb_getr (k := 292) (ci := 9) (j := 48) (idx := 110) (a := 323) (zd (i := .getfield 110) (n := 3) (by decide +kernel)) (by decide +kernel) (by decide +kernel) (by decide +kernel) (by decide +kernel) rfl g1176 (hR 48 (by decide)) <|
  bb_iload_n (n := 2) (i := 2) (zd (i := .iload_n 2) (n := 1) (by decide +kernel)) rfl rfl <|
  bb_lift (fun _ => q_iald (k := 323) (zd (i := .iaload) (n := 1) (by decide +kernel)) (by decide +kernel) (by decide +kernel) h1) <|
  bb_lift (fun _ => q_iast (k := 335) (zd (i := .iastore) (n := 1) (by decide +kernel)) (by decide +kernel) (by decide +kernel) h2) <|
  bb_iinc (i := 2) (n := 1) (zd (i := .iinc 2 (1)) (n := 3) (by decide +kernel)) rfl rfl (by decide +kernel) (wkNl_i rfl) <|
  bb_lift (fun _ => q_goto (off := -26) (tgt := 20) (zd (i := .goto (-26)) (n := 3) (by decide +kernel)) (by decide)) k
theorem w_X9_hold_49 {Q : qQ} {I : qMI} {L : qML} {R : qMR} {a1 : Int32} {a2 : Int32} (hQ : Q (some (.int 1)) 336 I L R) : wkB l G (d + 1) n_X9_hold Q 49 [.ref 292, .int a1, .int a2] [] I L R :=
  bb_lift (fun _ => q_iconst (n := 1) (zd (i := .iconst (1)) (n := 1) (by decide +kernel)) rfl) <|
  (fun lv hl => q_iret (zd (i := .ireturn) (n := 1) (by decide +kernel)) rfl rfl (Nat.le_refl _) (Nat.le_refl _) hQ)
theorem w_X9_restore_0 {Q : qQ} {I : qMI} {L : qML} {R : qMR} {a1 : Int32} {P : Int32 → qMI → qML → Prop} (hc : wkI l G d n_X9_in [.int a1, .int 0, .int 2] I L R P) (kk : ∀ y I' L', P y I' L' → wkB l G (d + 1) n_X9_restore Q 6 [.ref 292, .int a1, wkU] [.int y] I' L' R) : wkB l G (d + 1) n_X9_restore Q 0 [.ref 292, .int a1, wkU] [] I L R :=
  bb_iload_n (n := 1) (i := 1) (zd (i := .iload_n 1) (n := 1) (by decide +kernel)) rfl rfl <|
  bb_lift (fun _ => q_iconst (n := 0) (zd (i := .iconst (0)) (n := 1) (by decide +kernel)) rfl) <|
  bb_lift (fun _ => q_iconst (n := 2) (zd (i := .iconst (2)) (n := 1) (by decide +kernel)) rfl) <|
  bb_callSI (idx := 304) (N := n_X9_in) (As := [.int a1, .int 0, .int 2]) (st := []) (zd (i := .invokestatic 304) (n := 3) (by decide +kernel)) to_X9_in g1442 g1443 (Nat.le_of_ble_eq_true rfl) rfl rfl hc kk
theorem w_X9_restore_6 {Q : qQ} {I : qMI} {L : qML} {R : qMR} {a1 : Int32} {s0 : Int32} (kt : s0 = 0 → wkB l G (d + 1) n_X9_restore Q 18 [.ref 292, .int a1, wkU] [] I L R) (kf : ¬ s0 = 0 → wkB l G (d + 1) n_X9_restore Q 9 [.ref 292, .int a1, wkU] [] I L R) : wkB l G (d + 1) n_X9_restore Q 6 [.ref 292, .int a1, wkU] [.int s0] I L R :=
  (fun lv hl => q_if_eq (off := 12) (tgt := 18) (zd (i := .ifCond .eq (12)) (n := 3) (by decide +kernel)) (by decide) (fun h => (kt h) lv hl) (fun h => (kf h) lv hl))
theorem w_X9_restore_9 {Q : qQ} {I : qMI} {L : qML} {R : qMR} (hR : wkR R) {a1 : Int32} (h1 : vp_in a1 3) (kt : ¬ (I 334 a1.toNatClampNeg) = 0 → wkB l G (d + 1) n_X9_restore Q 20 [.ref 292, .int a1, wkU] [] I L R) (kf : (I 334 a1.toNatClampNeg) = 0 → wkB l G (d + 1) n_X9_restore Q 18 [.ref 292, .int a1, wkU] [] I L R) : wkB l G (d + 1) n_X9_restore Q 9 [.ref 292, .int a1, wkU] [] I L R :=
  bb_aload_n (n := 0) (i := 0) (zd (i := .aload_n 0) (n := 1) (by decide +kernel)) rfl rfl <|
  bb_getr (k := 292) (ci := 9) (j := 63) (idx := 143) (a := 334) (zd (i := .getfield 143) (n := 3) (by decide +kernel)) (by decide +kernel) (by decide +kernel) (by decide +kernel) (by decide +kernel) rfl g1191 (hR 63 (by decide)) <|
  bb_iload_n (n := 1) (i := 1) (zd (i := .iload_n 1) (n := 1) (by decide +kernel)) rfl rfl <|
  bb_lift (fun _ => q_zald (k := 334) (zd (i := .baload) (n := 1) (by decide +kernel)) (by decide +kernel) (by decide +kernel) h1) <|
  (fun lv hl => q_if_ne (off := 5) (tgt := 20) (zd (i := .ifCond .ne (5)) (n := 3) (by decide +kernel)) (by decide) (fun h => (kt h) lv hl) (fun h => (kf h) lv hl))
theorem w_X9_restore_18 {Q : qQ} {I : qMI} {L : qML} {R : qMR} {a1 : Int32} (hQ : Q (some (.int 0)) 336 I L R) : wkB l G (d + 1) n_X9_restore Q 18 [.ref 292, .int a1, wkU] [] I L R :=
  bb_lift (fun _ => q_iconst (n := 0) (zd (i := .iconst (0)) (n := 1) (by decide +kernel)) rfl) <|
  (fun lv hl => q_iret (zd (i := .ireturn) (n := 1) (by decide +kernel)) rfl rfl (Nat.le_refl _) (Nat.le_refl _) hQ)
theorem w_X9_restore_20 {Q : qQ} {I : qMI} {L : qML} {R : qMR} {a1 : Int32} (k : wkB l G (d + 1) n_X9_restore Q 22 [.ref 292, .int a1, .int 0] [] I L R) : wkB l G (d + 1) n_X9_restore Q 20 [.ref 292, .int a1, wkU] [] I L R :=
  bb_lift (fun _ => q_iconst (n := 0) (zd (i := .iconst (0)) (n := 1) (by decide +kernel)) rfl) <|
  bb_istore_n (n := 2) (i := 2) (zd (i := .istore_n 2) (n := 1) (by decide +kernel)) rfl (by decide +kernel) (wkNl_i rfl) <|
  k
theorem w_X9_restore_22 {Q : qQ} {I : qMI} {L : qML} {R : qMR} {a1 : Int32} {a2 : Int32} (kt : 97 ≤ a2 → wkB l G (d + 1) n_X9_restore Q 51 [.ref 292, .int a1, .int a2] [] I L R) (kf : ¬ 97 ≤ a2 → wkB l G (d + 1) n_X9_restore Q 28 [.ref 292, .int a1, .int a2] [] I L R) : wkB l G (d + 1) n_X9_restore Q 22 [.ref 292, .int a1, .int a2] [] I L R :=
  bb_iload_n (n := 2) (i := 2) (zd (i := .iload_n 2) (n := 1) (by decide +kernel)) rfl rfl <|
  bb_lift (fun _ => q_bipush (n := 97) (zd (i := .bipush (97)) (n := 2) (by decide +kernel)) rfl) <|
  (fun lv hl => q_icmp_ge (off := 26) (tgt := 51) (zd (i := .if_icmp .ge (26)) (n := 3) (by decide +kernel)) (by decide) (fun h => (kt h) lv hl) (fun h => (kf h) lv hl))
theorem w_X9_restore_28 {Q : qQ} {I : qMI} {L : qML} {R : qMR} (hR : wkR R) {a1 : Int32} {a2 : Int32} (h1 : vp_in ((97 * a1) + a2) 291) (h2 : vp_in a2 97) (k : wkB l G (d + 1) n_X9_restore Q 22 [.ref 292, .int a1, .int (a2 + 1)] [] (qUp I 323 a2.toNatClampNeg (I 335 ((97 * a1) + a2).toNatClampNeg)) L R) : wkB l G (d + 1) n_X9_restore Q 28 [.ref 292, .int a1, .int a2] [] I L R :=
  bb_aload_n (n := 0) (i := 0) (zd (i := .aload_n 0) (n := 1) (by decide +kernel)) rfl rfl <|
  bb_getr (k := 292) (ci := 9) (j := 48) (idx := 110) (a := 323) (zd (i := .getfield 110) (n := 3) (by decide +kernel)) (by decide +kernel) (by decide +kernel) (by decide +kernel) (by decide +kernel) rfl g1176 (hR 48 (by decide)) <|
  bb_iload_n (n := 2) (i := 2) (zd (i := .iload_n 2) (n := 1) (by decide +kernel)) rfl rfl <|
  bb_aload_n (n := 0) (i := 0) (zd (i := .aload_n 0) (n := 1) (by decide +kernel)) rfl rfl <|
  bb_getr (k := 292) (ci := 9) (j := 64) (idx := 146) (a := 335) (zd (i := .getfield 146) (n := 3) (by decide +kernel)) (by decide +kernel) (by decide +kernel) (by decide +kernel) (by decide +kernel) rfl g1192 (hR 64 (by decide)) <|
  bb_lift (fun _ => q_bipush (n := 97) (zd (i := .bipush (97)) (n := 2) (by decide +kernel)) rfl) <|
  bb_iload_n (n := 1) (i := 1) (zd (i := .iload_n 1) (n := 1) (by decide +kernel)) rfl rfl <|
  bb_lift (fun _ => q_imul (zd (i := .imul) (n := 1) (by decide +kernel))) <|
  bb_iload_n (n := 2) (i := 2) (zd (i := .iload_n 2) (n := 1) (by decide +kernel)) rfl rfl <|
  bb_lift (fun _ => q_iadd (zd (i := .iadd) (n := 1) (by decide +kernel))) <|
  bb_lift (fun _ => q_iald (k := 335) (zd (i := .iaload) (n := 1) (by decide +kernel)) (by decide +kernel) (by decide +kernel) h1) <|
  bb_lift (fun _ => q_iast (k := 323) (zd (i := .iastore) (n := 1) (by decide +kernel)) (by decide +kernel) (by decide +kernel) h2) <|
  bb_iinc (i := 2) (n := 1) (zd (i := .iinc 2 (1)) (n := 3) (by decide +kernel)) rfl rfl (by decide +kernel) (wkNl_i rfl) <|
  bb_lift (fun _ => q_goto (off := -26) (tgt := 22) (zd (i := .goto (-26)) (n := 3) (by decide +kernel)) (by decide)) k
theorem w_X9_restore_51 {Q : qQ} {I : qMI} {L : qML} {R : qMR} {a1 : Int32} {a2 : Int32} (hQ : Q (some (.int 1)) 336 (qUp I 292 51 0) L R) : wkB l G (d + 1) n_X9_restore Q 51 [.ref 292, .int a1, .int a2] [] I L R :=
  bb_aload_n (n := 0) (i := 0) (zd (i := .aload_n 0) (n := 1) (by decide +kernel)) rfl rfl <|
  bb_lift (fun _ => q_iconst (n := 0) (zd (i := .iconst (0)) (n := 1) (by decide +kernel)) rfl) <|
  bb_puti (k := 292) (ci := 9) (j := 51) (idx := 248) (zd (i := .putfield 248) (n := 3) (by decide +kernel)) (by decide +kernel) (by decide +kernel) (by decide +kernel) (by decide +kernel) g1179 rfl rfl <|
  bb_lift (fun _ => q_iconst (n := 1) (zd (i := .iconst (1)) (n := 1) (by decide +kernel)) rfl) <|
  (fun lv hl => q_iret (zd (i := .ireturn) (n := 1) (by decide +kernel)) rfl rfl (Nat.le_refl _) (Nat.le_refl _) hQ)
end
