section
variable {l : Launch} {G : qG} {d : Nat}
theorem w_X7_put_0 {Q : qQ} {I : qMI} {L : qML} {R : qMR} {a1 : Int32} {a2 : Int32} {a3 : Int32} (kt : (I 249 0) < 20 → wkB l G (d + 1) n_X7_put Q 11 [.ref 249, .int a1, .int a2, .int a3] [] I L R) (kf : ¬ (I 249 0) < 20 → wkB l G (d + 1) n_X7_put Q 9 [.ref 249, .int a1, .int a2, .int a3] [] I L R) : wkB l G (d + 1) n_X7_put Q 0 [.ref 249, .int a1, .int a2, .int a3] [] I L R :=
  bb_aload_n (n := 0) (i := 0) (zd (i := .aload_n 0) (n := 1) (by decide +kernel)) rfl rfl <|
  bb_geti (k := 249) (ci := 7) (j := 0) (idx := 9) (zd (i := .getfield 9) (n := 3) (by decide +kernel)) (by decide +kernel) (by decide +kernel) (by decide +kernel) (by decide +kernel) rfl g429 <|
  bb_lift (fun _ => q_bipush (n := 20) (zd (i := .bipush (20)) (n := 2) (by decide +kernel)) rfl) <|
  (fun lv hl => q_icmp_lt (off := 5) (tgt := 11) (zd (i := .if_icmp .lt (5)) (n := 3) (by decide +kernel)) (by decide) (fun h => (kt h) lv hl) (fun h => (kf h) lv hl))
theorem w_X7_put_9 {Q : qQ} {I : qMI} {L : qML} {R : qMR} {a1 : Int32} {a2 : Int32} {a3 : Int32} (hQ : Q (some (.int (-1))) 336 I L R) : wkB l G (d + 1) n_X7_put Q 9 [.ref 249, .int a1, .int a2, .int a3] [] I L R :=
  bb_lift (fun _ => q_iconst (n := -1) (zd (i := .iconst (-1)) (n := 1) (by decide +kernel)) rfl) <|
  (fun lv hl => q_iret (zd (i := .ireturn) (n := 1) (by decide +kernel)) rfl rfl (Nat.le_refl _) (Nat.le_refl _) hQ)
theorem w_X7_put_11 {Q : qQ} {I : qMI} {L : qML} {R : qMR} {a1 : Int32} {a2 : Int32} {a3 : Int32} (h1 : R 249 1 = some 250) (h2 : vp_in (I 249 0) 20) (h3 : R 249 2 = some 251) (h4 : vp_in ((qUp I 250 (I 249 0).toNatClampNeg a1) 249 0) 20) (h5 : R 249 3 = some 252) (h6 : vp_in ((qUp (qUp I 250 (I 249 0).toNatClampNeg a1) 251 ((qUp I 250 (I 249 0).toNatClampNeg a1) 249 0).toNatClampNeg a2) 249 0) 20) (hQ : Q (some (.int (((qUp (qUp (qUp (qUp I 250 (I 249 0).toNatClampNeg a1) 251 ((qUp I 250 (I 249 0).toNatClampNeg a1) 249 0).toNatClampNeg a2) 252 ((qUp (qUp I 250 (I 249 0).toNatClampNeg a1) 251 ((qUp I 250 (I 249 0).toNatClampNeg a1) 249 0).toNatClampNeg a2) 249 0).toNatClampNeg a3) 249 0 (((qUp (qUp (qUp I 250 (I 249 0).toNatClampNeg a1) 251 ((qUp I 250 (I 249 0).toNatClampNeg a1) 249 0).toNatClampNeg a2) 252 ((qUp (qUp I 250 (I 249 0).toNatClampNeg a1) 251 ((qUp I 250 (I 249 0).toNatClampNeg a1) 249 0).toNatClampNeg a2) 249 0).toNatClampNeg a3) 249 0) + 1)) 249 0) - 1))) 336 (qUp (qUp (qUp (qUp I 250 (I 249 0).toNatClampNeg a1) 251 ((qUp I 250 (I 249 0).toNatClampNeg a1) 249 0).toNatClampNeg a2) 252 ((qUp (qUp I 250 (I 249 0).toNatClampNeg a1) 251 ((qUp I 250 (I 249 0).toNatClampNeg a1) 249 0).toNatClampNeg a2) 249 0).toNatClampNeg a3) 249 0 (((qUp (qUp (qUp I 250 (I 249 0).toNatClampNeg a1) 251 ((qUp I 250 (I 249 0).toNatClampNeg a1) 249 0).toNatClampNeg a2) 252 ((qUp (qUp I 250 (I 249 0).toNatClampNeg a1) 251 ((qUp I 250 (I 249 0).toNatClampNeg a1) 249 0).toNatClampNeg a2) 249 0).toNatClampNeg a3) 249 0) + 1)) L R) : wkB l G (d + 1) n_X7_put Q 11 [.ref 249, .int a1, .int a2, .int a3] [] I L R :=
  bb_aload_n (n := 0) (i := 0) (zd (i := .aload_n 0) (n := 1) (by decide +kernel)) rfl rfl <|
  bb_getr (k := 249) (ci := 7) (j := 1) (idx := 15) (a := 250) (zd (i := .getfield 15) (n := 3) (by decide +kernel)) (by decide +kernel) (by decide +kernel) (by decide +kernel) (by decide +kernel) rfl g431 h1 <|
  bb_aload_n (n := 0) (i := 0) (zd (i := .aload_n 0) (n := 1) (by decide +kernel)) rfl rfl <|
  bb_geti (k := 249) (ci := 7) (j := 0) (idx := 9) (zd (i := .getfield 9) (n := 3) (by decide +kernel)) (by decide +kernel) (by decide +kernel) (by decide +kernel) (by decide +kernel) rfl g429 <|
  bb_iload_n (n := 1) (i := 1) (zd (i := .iload_n 1) (n := 1) (by decide +kernel)) rfl rfl <|
  bb_lift (fun _ => q_iast (k := 250) (zd (i := .iastore) (n := 1) (by decide +kernel)) (by decide +kernel) (by decide +kernel) h2) <|
  bb_aload_n (n := 0) (i := 0) (zd (i := .aload_n 0) (n := 1) (by decide +kernel)) rfl rfl <|
  bb_getr (k := 249) (ci := 7) (j := 2) (idx := 19) (a := 251) (zd (i := .getfield 19) (n := 3) (by decide +kernel)) (by decide +kernel) (by decide +kernel) (by decide +kernel) (by decide +kernel) rfl g432 h3 <|
  bb_aload_n (n := 0) (i := 0) (zd (i := .aload_n 0) (n := 1) (by decide +kernel)) rfl rfl <|
  bb_geti (k := 249) (ci := 7) (j := 0) (idx := 9) (zd (i := .getfield 9) (n := 3) (by decide +kernel)) (by decide +kernel) (by decide +kernel) (by decide +kernel) (by decide +kernel) rfl g429 <|
  bb_iload_n (n := 2) (i := 2) (zd (i := .iload_n 2) (n := 1) (by decide +kernel)) rfl rfl <|
  bb_lift (fun _ => q_iast (k := 251) (zd (i := .iastore) (n := 1) (by decide +kernel)) (by decide +kernel) (by decide +kernel) h4) <|
  bb_aload_n (n := 0) (i := 0) (zd (i := .aload_n 0) (n := 1) (by decide +kernel)) rfl rfl <|
  bb_getr (k := 249) (ci := 7) (j := 3) (idx := 22) (a := 252) (zd (i := .getfield 22) (n := 3) (by decide +kernel)) (by decide +kernel) (by decide +kernel) (by decide +kernel) (by decide +kernel) rfl g433 h5 <|
  bb_aload_n (n := 0) (i := 0) (zd (i := .aload_n 0) (n := 1) (by decide +kernel)) rfl rfl <|
  bb_geti (k := 249) (ci := 7) (j := 0) (idx := 9) (zd (i := .getfield 9) (n := 3) (by decide +kernel)) (by decide +kernel) (by decide +kernel) (by decide +kernel) (by decide +kernel) rfl g429 <|
  bb_iload_n (n := 3) (i := 3) (zd (i := .iload_n 3) (n := 1) (by decide +kernel)) rfl rfl <|
  bb_lift (fun _ => q_iast (k := 252) (zd (i := .iastore) (n := 1) (by decide +kernel)) (by decide +kernel) (by decide +kernel) h6) <|
  bb_aload_n (n := 0) (i := 0) (zd (i := .aload_n 0) (n := 1) (by decide +kernel)) rfl rfl <|
  bb_lift (fun _ => q_dup (zd (i := .dup) (n := 1) (by decide +kernel)) rfl) <|
  bb_geti (k := 249) (ci := 7) (j := 0) (idx := 9) (zd (i := .getfield 9) (n := 3) (by decide +kernel)) (by decide +kernel) (by decide +kernel) (by decide +kernel) (by decide +kernel) rfl g429 <|
  bb_lift (fun _ => q_iconst (n := 1) (zd (i := .iconst (1)) (n := 1) (by decide +kernel)) rfl) <|
  bb_lift (fun _ => q_iadd (zd (i := .iadd) (n := 1) (by decide +kernel))) <|
  bb_puti (k := 249) (ci := 7) (j := 0) (idx := 9) (zd (i := .putfield 9) (n := 3) (by decide +kernel)) (by decide +kernel) (by decide +kernel) (by decide +kernel) (by decide +kernel) g429 rfl rfl <|
  bb_aload_n (n := 0) (i := 0) (zd (i := .aload_n 0) (n := 1) (by decide +kernel)) rfl rfl <|
  bb_geti (k := 249) (ci := 7) (j := 0) (idx := 9) (zd (i := .getfield 9) (n := 3) (by decide +kernel)) (by decide +kernel) (by decide +kernel) (by decide +kernel) (by decide +kernel) rfl g429 <|
  bb_lift (fun _ => q_iconst (n := 1) (zd (i := .iconst (1)) (n := 1) (by decide +kernel)) rfl) <|
  bb_lift (fun _ => q_isub (zd (i := .isub) (n := 1) (by decide +kernel))) <|
  (fun lv hl => q_iret (zd (i := .ireturn) (n := 1) (by decide +kernel)) rfl rfl (Nat.le_refl _) (Nat.le_refl _) hQ)
theorem w_X8_tell_0 {Q : qQ} {I : qMI} {L : qML} {R : qMR} {a1 : Int32} {a2 : Int32} {a3 : Int32} {P : Int32 → qMI → qML → qMR → Prop} (hc : wkCi l G d n_X8_isX [.int a1] I L R P) (kk : ∀ y I' L' R', P y I' L' R' → wkB l G (d + 1) n_X8_tell Q 4 [.ref 0, .int a1, .int a2, .int a3] [.int y] I' L' R') : wkB l G (d + 1) n_X8_tell Q 0 [.ref 0, .int a1, .int a2, .int a3] [] I L R :=
  bb_iload_n (n := 1) (i := 1) (zd (i := .iload_n 1) (n := 1) (by decide +kernel)) rfl rfl <|
  bb_callS (idx := 175) (N := n_X8_isX) (As := [.int a1]) (st := []) (zd (i := .invokestatic 175) (n := 3) (by decide +kernel)) to_X8_isX g805 g806 (Nat.le_of_ble_eq_true rfl) rfl rfl hc (fun r I' L' R' hq => by obtain ⟨y, rfl, hp⟩ := hq; exact kk y I' L' R' hp)
theorem w_X8_tell_4 {Q : qQ} {I : qMI} {L : qML} {R : qMR} {a1 : Int32} {a2 : Int32} {a3 : Int32} {s0 : Int32} (kt : s0 = 0 → wkB l G (d + 1) n_X8_tell Q 29 [.ref 0, .int a1, .int a2, .int a3] [] I L R) (kf : ¬ s0 = 0 → wkB l G (d + 1) n_X8_tell Q 7 [.ref 0, .int a1, .int a2, .int a3] [] I L R) : wkB l G (d + 1) n_X8_tell Q 4 [.ref 0, .int a1, .int a2, .int a3] [.int s0] I L R :=
  (fun lv hl => q_if_eq (off := 25) (tgt := 29) (zd (i := .ifCond .eq (25)) (n := 3) (by decide +kernel)) (by decide) (fun h => (kt h) lv hl) (fun h => (kf h) lv hl))
theorem w_X8_tell_7 {Q : qQ} {I : qMI} {L : qML} {R : qMR} {a1 : Int32} {a2 : Int32} {a3 : Int32} (kt : a2 = (-1) → wkB l G (d + 1) n_X8_tell Q 19 [.ref 0, .int a1, .int a2, .int a3] [] I L R) (kf : ¬ a2 = (-1) → wkB l G (d + 1) n_X8_tell Q 12 [.ref 0, .int a1, .int a2, .int a3] [] I L R) : wkB l G (d + 1) n_X8_tell Q 7 [.ref 0, .int a1, .int a2, .int a3] [] I L R :=
  bb_iload_n (n := 2) (i := 2) (zd (i := .iload_n 2) (n := 1) (by decide +kernel)) rfl rfl <|
  bb_lift (fun _ => q_iconst (n := -1) (zd (i := .iconst (-1)) (n := 1) (by decide +kernel)) rfl) <|
  (fun lv hl => q_icmp_eq (off := 10) (tgt := 19) (zd (i := .if_icmp .eq (10)) (n := 3) (by decide +kernel)) (by decide) (fun h => (kt h) lv hl) (fun h => (kf h) lv hl))
theorem w_X8_tell_12 {Q : qQ} {I : qMI} {L : qML} {R : qMR} {a1 : Int32} {a2 : Int32} {a3 : Int32} {P : Int32 → qMI → qML → qMR → Prop} (hc : wkCi l G d n_X8_isX [.int a2] I L R P) (kk : ∀ y I' L' R', P y I' L' R' → wkB l G (d + 1) n_X8_tell Q 16 [.ref 0, .int a1, .int a2, .int a3] [.int y] I' L' R') : wkB l G (d + 1) n_X8_tell Q 12 [.ref 0, .int a1, .int a2, .int a3] [] I L R :=
  bb_iload_n (n := 2) (i := 2) (zd (i := .iload_n 2) (n := 1) (by decide +kernel)) rfl rfl <|
  bb_callS (idx := 175) (N := n_X8_isX) (As := [.int a2]) (st := []) (zd (i := .invokestatic 175) (n := 3) (by decide +kernel)) to_X8_isX g805 g806 (Nat.le_of_ble_eq_true rfl) rfl rfl hc (fun r I' L' R' hq => by obtain ⟨y, rfl, hp⟩ := hq; exact kk y I' L' R' hp)
theorem w_X8_tell_16 {Q : qQ} {I : qMI} {L : qML} {R : qMR} {a1 : Int32} {a2 : Int32} {a3 : Int32} {s0 : Int32} (kt : s0 = 0 → wkB l G (d + 1) n_X8_tell Q 29 [.ref 0, .int a1, .int a2, .int a3] [] I L R) (kf : ¬ s0 = 0 → wkB l G (d + 1) n_X8_tell Q 19 [.ref 0, .int a1, .int a2, .int a3] [] I L R) : wkB l G (d + 1) n_X8_tell Q 16 [.ref 0, .int a1, .int a2, .int a3] [.int s0] I L R :=
  (fun lv hl => q_if_eq (off := 13) (tgt := 29) (zd (i := .ifCond .eq (13)) (n := 3) (by decide +kernel)) (by decide) (fun h => (kt h) lv hl) (fun h => (kf h) lv hl))
theorem w_X8_tell_19 {Q : qQ} {I : qMI} {L : qML} {R : qMR} {a1 : Int32} {a2 : Int32} {a3 : Int32} (kt : a3 < 0 → wkB l G (d + 1) n_X8_tell Q 29 [.ref 0, .int a1, .int a2, .int a3] [] I L R) (kf : ¬ a3 < 0 → wkB l G (d + 1) n_X8_tell Q 23 [.ref 0, .int a1, .int a2, .int a3] [] I L R) : wkB l G (d + 1) n_X8_tell Q 19 [.ref 0, .int a1, .int a2, .int a3] [] I L R :=
  bb_iload_n (n := 3) (i := 3) (zd (i := .iload_n 3) (n := 1) (by decide +kernel)) rfl rfl <|
  (fun lv hl => q_if_lt (off := 9) (tgt := 29) (zd (i := .ifCond .lt (9)) (n := 3) (by decide +kernel)) (by decide) (fun h => (kt h) lv hl) (fun h => (kf h) lv hl))
theorem w_X8_tell_23 {Q : qQ} {I : qMI} {L : qML} {R : qMR} {a1 : Int32} {a2 : Int32} {a3 : Int32} (kt : a3 ≤ 24 → wkB l G (d + 1) n_X8_tell Q 31 [.ref 0, .int a1, .int a2, .int a3] [] I L R) (kf : ¬ a3 ≤ 24 → wkB l G (d + 1) n_X8_tell Q 29 [.ref 0, .int a1, .int a2, .int a3] [] I L R) : wkB l G (d + 1) n_X8_tell Q 23 [.ref 0, .int a1, .int a2, .int a3] [] I L R :=
  bb_iload_n (n := 3) (i := 3) (zd (i := .iload_n 3) (n := 1) (by decide +kernel)) rfl rfl <|
  bb_lift (fun _ => q_bipush (n := 24) (zd (i := .bipush (24)) (n := 2) (by decide +kernel)) rfl) <|
  (fun lv hl => q_icmp_le (off := 5) (tgt := 31) (zd (i := .if_icmp .le (5)) (n := 3) (by decide +kernel)) (by decide) (fun h => (kt h) lv hl) (fun h => (kf h) lv hl))
theorem w_X8_tell_29 {Q : qQ} {I : qMI} {L : qML} {R : qMR} {a1 : Int32} {a2 : Int32} {a3 : Int32} (hQ : Q (some (.int (-1))) 336 I L R) : wkB l G (d + 1) n_X8_tell Q 29 [.ref 0, .int a1, .int a2, .int a3] [] I L R :=
  bb_lift (fun _ => q_iconst (n := -1) (zd (i := .iconst (-1)) (n := 1) (by decide +kernel)) rfl) <|
  (fun lv hl => q_iret (zd (i := .ireturn) (n := 1) (by decide +kernel)) rfl rfl (Nat.le_refl _) (Nat.le_refl _) hQ)
theorem w_X8_tell_31 {Q : qQ} {I : qMI} {L : qML} {R : qMR} {a1 : Int32} {a2 : Int32} {a3 : Int32} (h1 : R 0 7 = some 249) (h2 : R 0 2 = some 21) {P : Int32 → qMI → qML → qMR → Prop} (hc : wkCi l G d n_X7_put [.ref 249, .int a1, .int a2, .int ((I 21 0) + a3)] I L R P) (kk : ∀ y I' L' R', P y I' L' R' → wkB l G (d + 1) n_X8_tell Q 49 [.ref 0, .int a1, .int a2, .int a3] [.int y] I' L' R') : wkB l G (d + 1) n_X8_tell Q 31 [.ref 0, .int a1, .int a2, .int a3] [] I L R :=
  bb_aload_n (n := 0) (i := 0) (zd (i := .aload_n 0) (n := 1) (by decide +kernel)) rfl rfl <|
  bb_getr (k := 0) (ci := 8) (j := 7) (idx := 51) (a := 249) (zd (i := .getfield 51) (n := 3) (by decide +kernel)) (by decide +kernel) (by decide +kernel) (by decide +kernel) (by decide +kernel) rfl g459 h1 <|
  bb_iload_n (n := 1) (i := 1) (zd (i := .iload_n 1) (n := 1) (by decide +kernel)) rfl rfl <|
  bb_iload_n (n := 2) (i := 2) (zd (i := .iload_n 2) (n := 1) (by decide +kernel)) rfl rfl <|
  bb_aload_n (n := 0) (i := 0) (zd (i := .aload_n 0) (n := 1) (by decide +kernel)) rfl rfl <|
  bb_getr (k := 0) (ci := 8) (j := 2) (idx := 26) (a := 21) (zd (i := .getfield 26) (n := 3) (by decide +kernel)) (by decide +kernel) (by decide +kernel) (by decide +kernel) (by decide +kernel) rfl g454 h2 <|
  bb_geti (k := 21) (ci := 4) (j := 0) (idx := 140) (zd (i := .getfield 140) (n := 3) (by decide +kernel)) (by decide +kernel) (by decide +kernel) (by decide +kernel) (by decide +kernel) rfl g368 <|
  bb_iload_n (n := 3) (i := 3) (zd (i := .iload_n 3) (n := 1) (by decide +kernel)) rfl rfl <|
  bb_lift (fun _ => q_iadd (zd (i := .iadd) (n := 1) (by decide +kernel))) <|
  bb_callV (idx := 297) (k := 249) (ci := 7) (N := n_X7_put) (As := [.int a1, .int a2, .int ((I 21 0) + a3)]) (st := []) (zd (i := .invokevirtual 297) (n := 3) (by decide +kernel)) to_X7_put g1026 g1027 g1028 (Nat.le_of_ble_eq_true rfl) (by decide +kernel) (by decide +kernel) (by decide +kernel) rfl rfl rfl hc (fun r I' L' R' hq => by obtain ⟨y, rfl, hp⟩ := hq; exact kk y I' L' R' hp)
theorem w_X8_tell_49 {Q : qQ} {I : qMI} {L : qML} {R : qMR} {a1 : Int32} {a2 : Int32} {a3 : Int32} {s0 : Int32} (hQ : Q (some (.int s0)) 336 I L R) : wkB l G (d + 1) n_X8_tell Q 49 [.ref 0, .int a1, .int a2, .int a3] [.int s0] I L R :=
  (fun lv hl => q_iret (zd (i := .ireturn) (n := 1) (by decide +kernel)) rfl rfl (Nat.le_refl _) (Nat.le_refl _) hQ)
theorem w_X8_forget_0 {Q : qQ} {I : qMI} {L : qML} {R : qMR}  (h1 : R 0 7 = some 249) (h2 : R 0 7 = some 249) (hQ : Q (some (.int (I 249 0))) 336 (qUp I 249 0 0) L R) : wkB l G (d + 1) n_X8_forget Q 0 [.ref 0, wkU] [] I L R :=
  bb_aload_n (n := 0) (i := 0) (zd (i := .aload_n 0) (n := 1) (by decide +kernel)) rfl rfl <|
  bb_getr (k := 0) (ci := 8) (j := 7) (idx := 51) (a := 249) (zd (i := .getfield 51) (n := 3) (by decide +kernel)) (by decide +kernel) (by decide +kernel) (by decide +kernel) (by decide +kernel) rfl g459 h1 <|
  bb_geti (k := 249) (ci := 7) (j := 0) (idx := 114) (zd (i := .getfield 114) (n := 3) (by decide +kernel)) (by decide +kernel) (by decide +kernel) (by decide +kernel) (by decide +kernel) rfl g430 <|
  bb_istore_n (n := 1) (i := 1) (zd (i := .istore_n 1) (n := 1) (by decide +kernel)) rfl (by decide +kernel) (wkNl_r rfl) <|
  bb_aload_n (n := 0) (i := 0) (zd (i := .aload_n 0) (n := 1) (by decide +kernel)) rfl rfl <|
  bb_getr (k := 0) (ci := 8) (j := 7) (idx := 51) (a := 249) (zd (i := .getfield 51) (n := 3) (by decide +kernel)) (by decide +kernel) (by decide +kernel) (by decide +kernel) (by decide +kernel) rfl g459 h2 <|
  bb_lift (fun _ => q_iconst (n := 0) (zd (i := .iconst (0)) (n := 1) (by decide +kernel)) rfl) <|
  bb_puti (k := 249) (ci := 7) (j := 0) (idx := 114) (zd (i := .putfield 114) (n := 3) (by decide +kernel)) (by decide +kernel) (by decide +kernel) (by decide +kernel) (by decide +kernel) g430 rfl rfl <|
  bb_iload_n (n := 1) (i := 1) (zd (i := .iload_n 1) (n := 1) (by decide +kernel)) rfl rfl <|
  (fun lv hl => q_iret (zd (i := .ireturn) (n := 1) (by decide +kernel)) rfl rfl (Nat.le_refl _) (Nat.le_refl _) hQ)
theorem w_X9_tell_0 {Q : qQ} {I : qMI} {L : qML} {R : qMR} {a1 : Int32} {a2 : Int32} {a3 : Int32} (kt : (I 292 58) = 20 → wkB l G (d + 1) n_X9_tell Q 38 [.ref 292, .int a1, .int a2, .int a3] [] I L R) (kf : ¬ (I 292 58) = 20 → wkB l G (d + 1) n_X9_tell Q 9 [.ref 292, .int a1, .int a2, .int a3] [] I L R) : wkB l G (d + 1) n_X9_tell Q 0 [.ref 292, .int a1, .int a2, .int a3] [] I L R :=
  bb_aload_n (n := 0) (i := 0) (zd (i := .aload_n 0) (n := 1) (by decide +kernel)) rfl rfl <|
  bb_geti (k := 292) (ci := 9) (j := 58) (idx := 251) (zd (i := .getfield 251) (n := 3) (by decide +kernel)) (by decide +kernel) (by decide +kernel) (by decide +kernel) (by decide +kernel) rfl g1186 <|
  bb_lift (fun _ => q_bipush (n := 20) (zd (i := .bipush (20)) (n := 2) (by decide +kernel)) rfl) <|
  (fun lv hl => q_icmp_eq (off := 32) (tgt := 38) (zd (i := .if_icmp .eq (32)) (n := 3) (by decide +kernel)) (by decide) (fun h => (kt h) lv hl) (fun h => (kf h) lv hl))
theorem w_X9_tell_9 {Q : qQ} {I : qMI} {L : qML} {R : qMR} {a1 : Int32} {a2 : Int32} {a3 : Int32} {P : Int32 → qMI → qML → Prop} (hc : wkI l G d n_X9_isX [.int a1] I L R P) (kk : ∀ y I' L', P y I' L' → wkB l G (d + 1) n_X9_tell Q 13 [.ref 292, .int a1, .int a2, .int a3] [.int y] I' L' R) : wkB l G (d + 1) n_X9_tell Q 9 [.ref 292, .int a1, .int a2, .int a3] [] I L R :=
  bb_iload_n (n := 1) (i := 1) (zd (i := .iload_n 1) (n := 1) (by decide +kernel)) rfl rfl <|
  bb_callSI (idx := 387) (N := n_X9_isX) (As := [.int a1]) (st := []) (zd (i := .invokestatic 387) (n := 3) (by decide +kernel)) to_X9_isX g1507 g1508 (Nat.le_of_ble_eq_true rfl) rfl rfl hc kk
theorem w_X9_tell_13 {Q : qQ} {I : qMI} {L : qML} {R : qMR} {a1 : Int32} {a2 : Int32} {a3 : Int32} {s0 : Int32} (kt : s0 = 0 → wkB l G (d + 1) n_X9_tell Q 38 [.ref 292, .int a1, .int a2, .int a3] [] I L R) (kf : ¬ s0 = 0 → wkB l G (d + 1) n_X9_tell Q 16 [.ref 292, .int a1, .int a2, .int a3] [] I L R) : wkB l G (d + 1) n_X9_tell Q 13 [.ref 292, .int a1, .int a2, .int a3] [.int s0] I L R :=
  (fun lv hl => q_if_eq (off := 25) (tgt := 38) (zd (i := .ifCond .eq (25)) (n := 3) (by decide +kernel)) (by decide) (fun h => (kt h) lv hl) (fun h => (kf h) lv hl))
theorem w_X9_tell_16 {Q : qQ} {I : qMI} {L : qML} {R : qMR} {a1 : Int32} {a2 : Int32} {a3 : Int32} (kt : a2 = (-1) → wkB l G (d + 1) n_X9_tell Q 28 [.ref 292, .int a1, .int a2, .int a3] [] I L R) (kf : ¬ a2 = (-1) → wkB l G (d + 1) n_X9_tell Q 21 [.ref 292, .int a1, .int a2, .int a3] [] I L R) : wkB l G (d + 1) n_X9_tell Q 16 [.ref 292, .int a1, .int a2, .int a3] [] I L R :=
  bb_iload_n (n := 2) (i := 2) (zd (i := .iload_n 2) (n := 1) (by decide +kernel)) rfl rfl <|
  bb_lift (fun _ => q_iconst (n := -1) (zd (i := .iconst (-1)) (n := 1) (by decide +kernel)) rfl) <|
  (fun lv hl => q_icmp_eq (off := 10) (tgt := 28) (zd (i := .if_icmp .eq (10)) (n := 3) (by decide +kernel)) (by decide) (fun h => (kt h) lv hl) (fun h => (kf h) lv hl))
theorem w_X9_tell_21 {Q : qQ} {I : qMI} {L : qML} {R : qMR} {a1 : Int32} {a2 : Int32} {a3 : Int32} {P : Int32 → qMI → qML → Prop} (hc : wkI l G d n_X9_isX [.int a2] I L R P) (kk : ∀ y I' L', P y I' L' → wkB l G (d + 1) n_X9_tell Q 25 [.ref 292, .int a1, .int a2, .int a3] [.int y] I' L' R) : wkB l G (d + 1) n_X9_tell Q 21 [.ref 292, .int a1, .int a2, .int a3] [] I L R :=
  bb_iload_n (n := 2) (i := 2) (zd (i := .iload_n 2) (n := 1) (by decide +kernel)) rfl rfl <|
  bb_callSI (idx := 387) (N := n_X9_isX) (As := [.int a2]) (st := []) (zd (i := .invokestatic 387) (n := 3) (by decide +kernel)) to_X9_isX g1507 g1508 (Nat.le_of_ble_eq_true rfl) rfl rfl hc kk
theorem w_X9_tell_25 {Q : qQ} {I : qMI} {L : qML} {R : qMR} {a1 : Int32} {a2 : Int32} {a3 : Int32} {s0 : Int32} (kt : s0 = 0 → wkB l G (d + 1) n_X9_tell Q 38 [.ref 292, .int a1, .int a2, .int a3] [] I L R) (kf : ¬ s0 = 0 → wkB l G (d + 1) n_X9_tell Q 28 [.ref 292, .int a1, .int a2, .int a3] [] I L R) : wkB l G (d + 1) n_X9_tell Q 25 [.ref 292, .int a1, .int a2, .int a3] [.int s0] I L R :=
  (fun lv hl => q_if_eq (off := 13) (tgt := 38) (zd (i := .ifCond .eq (13)) (n := 3) (by decide +kernel)) (by decide) (fun h => (kt h) lv hl) (fun h => (kf h) lv hl))
theorem w_X9_tell_28 {Q : qQ} {I : qMI} {L : qML} {R : qMR} {a1 : Int32} {a2 : Int32} {a3 : Int32} {P : Int32 → qMI → qML → Prop} (hc : wkI l G d n_X9_in [.int a3, .int 0, .int 24] I L R P) (kk : ∀ y I' L', P y I' L' → wkB l G (d + 1) n_X9_tell Q 35 [.ref 292, .int a1, .int a2, .int a3] [.int y] I' L' R) : wkB l G (d + 1) n_X9_tell Q 28 [.ref 292, .int a1, .int a2, .int a3] [] I L R :=
  bb_iload_n (n := 3) (i := 3) (zd (i := .iload_n 3) (n := 1) (by decide +kernel)) rfl rfl <|
  bb_lift (fun _ => q_iconst (n := 0) (zd (i := .iconst (0)) (n := 1) (by decide +kernel)) rfl) <|
  bb_lift (fun _ => q_bipush (n := 24) (zd (i := .bipush (24)) (n := 2) (by decide +kernel)) rfl) <|
  bb_callSI (idx := 304) (N := n_X9_in) (As := [.int a3, .int 0, .int 24]) (st := []) (zd (i := .invokestatic 304) (n := 3) (by decide +kernel)) to_X9_in g1442 g1443 (Nat.le_of_ble_eq_true rfl) rfl rfl hc kk
theorem w_X9_tell_35 {Q : qQ} {I : qMI} {L : qML} {R : qMR} {a1 : Int32} {a2 : Int32} {a3 : Int32} {s0 : Int32} (kt : ¬ s0 = 0 → wkB l G (d + 1) n_X9_tell Q 40 [.ref 292, .int a1, .int a2, .int a3] [] I L R) (kf : s0 = 0 → wkB l G (d + 1) n_X9_tell Q 38 [.ref 292, .int a1, .int a2, .int a3] [] I L R) : wkB l G (d + 1) n_X9_tell Q 35 [.ref 292, .int a1, .int a2, .int a3] [.int s0] I L R :=
  (fun lv hl => q_if_ne (off := 5) (tgt := 40) (zd (i := .ifCond .ne (5)) (n := 3) (by decide +kernel)) (by decide) (fun h => (kt h) lv hl) (fun h => (kf h) lv hl))
theorem w_X9_tell_38 {Q : qQ} {I : qMI} {L : qML} {R : qMR} {a1 : Int32} {a2 : Int32} {a3 : Int32} (hQ : Q (some (.int (-1))) 336 I L R) : wkB l G (d + 1) n_X9_tell Q 38 [.ref 292, .int a1, .int a2, .int a3] [] I L R :=
  bb_lift (fun _ => q_iconst (n := -1) (zd (i := .iconst (-1)) (n := 1) (by decide +kernel)) rfl) <|
  (fun lv hl => q_iret (zd (i := .ireturn) (n := 1) (by decide +kernel)) rfl rfl (Nat.le_refl _) (Nat.le_refl _) hQ)
theorem w_X9_tell_40 {Q : qQ} {I : qMI} {L : qML} {R : qMR} (hR : wkR R) {a1 : Int32} {a2 : Int32} {a3 : Int32} (h1 : vp_in (I 292 58) 20) (kt : ¬ a2 = (-1) → wkB l G (d + 1) n_X9_tell Q 68 [.ref 292, .int a1, .int a2, .int a3] [.int ((qUp I 330 (I 292 58).toNatClampNeg a1) 292 58), .ref 331] (qUp I 330 (I 292 58).toNatClampNeg a1) L R) (kf : a2 = (-1) → wkB l G (d + 1) n_X9_tell Q 63 [.ref 292, .int a1, .int a2, .int a3] [.int ((qUp I 330 (I 292 58).toNatClampNeg a1) 292 58), .ref 331] (qUp I 330 (I 292 58).toNatClampNeg a1) L R) : wkB l G (d + 1) n_X9_tell Q 40 [.ref 292, .int a1, .int a2, .int a3] [] I L R :=
  bb_aload_n (n := 0) (i := 0) (zd (i := .aload_n 0) (n := 1) (by decide +kernel)) rfl rfl <|
  bb_getr (k := 292) (ci := 9) (j := 59) (idx := 131) (a := 330) (zd (i := .getfield 131) (n := 3) (by decide +kernel)) (by decide +kernel) (by decide +kernel) (by decide +kernel) (by decide +kernel) rfl g1187 (hR 59 (by decide)) <|
  bb_aload_n (n := 0) (i := 0) (zd (i := .aload_n 0) (n := 1) (by decide +kernel)) rfl rfl <|
  bb_geti (k := 292) (ci := 9) (j := 58) (idx := 251) (zd (i := .getfield 251) (n := 3) (by decide +kernel)) (by decide +kernel) (by decide +kernel) (by decide +kernel) (by decide +kernel) rfl g1186 <|
  bb_iload_n (n := 1) (i := 1) (zd (i := .iload_n 1) (n := 1) (by decide +kernel)) rfl rfl <|
  bb_lift (fun _ => q_iast (k := 330) (zd (i := .iastore) (n := 1) (by decide +kernel)) (by decide +kernel) (by decide +kernel) h1) <|
  bb_aload_n (n := 0) (i := 0) (zd (i := .aload_n 0) (n := 1) (by decide +kernel)) rfl rfl <|
  bb_getr (k := 292) (ci := 9) (j := 60) (idx := 134) (a := 331) (zd (i := .getfield 134) (n := 3) (by decide +kernel)) (by decide +kernel) (by decide +kernel) (by decide +kernel) (by decide +kernel) rfl g1188 (hR 60 (by decide)) <|
  bb_aload_n (n := 0) (i := 0) (zd (i := .aload_n 0) (n := 1) (by decide +kernel)) rfl rfl <|
  bb_geti (k := 292) (ci := 9) (j := 58) (idx := 251) (zd (i := .getfield 251) (n := 3) (by decide +kernel)) (by decide +kernel) (by decide +kernel) (by decide +kernel) (by decide +kernel) rfl g1186 <|
  bb_iload_n (n := 2) (i := 2) (zd (i := .iload_n 2) (n := 1) (by decide +kernel)) rfl rfl <|
  bb_lift (fun _ => q_iconst (n := -1) (zd (i := .iconst (-1)) (n := 1) (by decide +kernel)) rfl) <|
  (fun lv hl => q_icmp_ne (off := 8) (tgt := 68) (zd (i := .if_icmp .ne (8)) (n := 3) (by decide +kernel)) (by decide) (fun h => (kt h) lv hl) (fun h => (kf h) lv hl))
theorem w_X9_tell_63 {Q : qQ} {I : qMI} {L : qML} {R : qMR} {a1 : Int32} {a2 : Int32} {a3 : Int32} {s1 : Int32} (k : wkB l G (d + 1) n_X9_tell Q 69 [.ref 292, .int a1, .int a2, .int a3] [.int (-2), .int s1, .ref 331] I L R) : wkB l G (d + 1) n_X9_tell Q 63 [.ref 292, .int a1, .int a2, .int a3] [.int s1, .ref 331] I L R :=
  bb_lift (fun _ => q_bipush (n := -2) (zd (i := .bipush (-2)) (n := 2) (by decide +kernel)) rfl) <|
  bb_lift (fun _ => q_goto (off := 4) (tgt := 69) (zd (i := .goto (4)) (n := 3) (by decide +kernel)) (by decide)) k
theorem w_X9_tell_68 {Q : qQ} {I : qMI} {L : qML} {R : qMR} {a1 : Int32} {a2 : Int32} {a3 : Int32} {s1 : Int32} (k : wkB l G (d + 1) n_X9_tell Q 69 [.ref 292, .int a1, .int a2, .int a3] [.int a2, .int s1, .ref 331] I L R) : wkB l G (d + 1) n_X9_tell Q 68 [.ref 292, .int a1, .int a2, .int a3] [.int s1, .ref 331] I L R :=
  bb_iload_n (n := 2) (i := 2) (zd (i := .iload_n 2) (n := 1) (by decide +kernel)) rfl rfl <|
  k
theorem w_X9_tell_69 {Q : qQ} {I : qMI} {L : qML} {R : qMR} (hR : wkR R) {a1 : Int32} {a2 : Int32} {a3 : Int32} {s1 : Int32} {s2 : Int32} (h1 : vp_in s1 20) (h2 : vp_in ((qUp I 331 s1.toNatClampNeg s2) 292 58) 20) (hQ : Q (some (.int (((qUp (qUp (qUp I 331 s1.toNatClampNeg s2) 332 ((qUp I 331 s1.toNatClampNeg s2) 292 58).toNatClampNeg a3) 292 58 (((qUp (qUp I 331 s1.toNatClampNeg s2) 332 ((qUp I 331 s1.toNatClampNeg s2) 292 58).toNatClampNeg a3) 292 58) + 1)) 292 58) - 1))) 336 (qUp (qUp (qUp I 331 s1.toNatClampNeg s2) 332 ((qUp I 331 s1.toNatClampNeg s2) 292 58).toNatClampNeg a3) 292 58 (((qUp (qUp I 331 s1.toNatClampNeg s2) 332 ((qUp I 331 s1.toNatClampNeg s2) 292 58).toNatClampNeg a3) 292 58) + 1)) L R) : wkB l G (d + 1) n_X9_tell Q 69 [.ref 292, .int a1, .int a2, .int a3] [.int s2, .int s1, .ref 331] I L R :=
  bb_lift (fun _ => q_iast (k := 331) (zd (i := .iastore) (n := 1) (by decide +kernel)) (by decide +kernel) (by decide +kernel) h1) <|
  bb_aload_n (n := 0) (i := 0) (zd (i := .aload_n 0) (n := 1) (by decide +kernel)) rfl rfl <|
  bb_getr (k := 292) (ci := 9) (j := 61) (idx := 137) (a := 332) (zd (i := .getfield 137) (n := 3) (by decide +kernel)) (by decide +kernel) (by decide +kernel) (by decide +kernel) (by decide +kernel) rfl g1189 (hR 61 (by decide)) <|
  bb_aload_n (n := 0) (i := 0) (zd (i := .aload_n 0) (n := 1) (by decide +kernel)) rfl rfl <|
  bb_geti (k := 292) (ci := 9) (j := 58) (idx := 251) (zd (i := .getfield 251) (n := 3) (by decide +kernel)) (by decide +kernel) (by decide +kernel) (by decide +kernel) (by decide +kernel) rfl g1186 <|
  bb_iload_n (n := 3) (i := 3) (zd (i := .iload_n 3) (n := 1) (by decide +kernel)) rfl rfl <|
  bb_lift (fun _ => q_iast (k := 332) (zd (i := .iastore) (n := 1) (by decide +kernel)) (by decide +kernel) (by decide +kernel) h2) <|
  bb_aload_n (n := 0) (i := 0) (zd (i := .aload_n 0) (n := 1) (by decide +kernel)) rfl rfl <|
  bb_lift (fun _ => q_dup (zd (i := .dup) (n := 1) (by decide +kernel)) rfl) <|
  bb_geti (k := 292) (ci := 9) (j := 58) (idx := 251) (zd (i := .getfield 251) (n := 3) (by decide +kernel)) (by decide +kernel) (by decide +kernel) (by decide +kernel) (by decide +kernel) rfl g1186 <|
  bb_lift (fun _ => q_iconst (n := 1) (zd (i := .iconst (1)) (n := 1) (by decide +kernel)) rfl) <|
  bb_lift (fun _ => q_iadd (zd (i := .iadd) (n := 1) (by decide +kernel))) <|
  bb_puti (k := 292) (ci := 9) (j := 58) (idx := 251) (zd (i := .putfield 251) (n := 3) (by decide +kernel)) (by decide +kernel) (by decide +kernel) (by decide +kernel) (by decide +kernel) g1186 rfl rfl <|
  bb_aload_n (n := 0) (i := 0) (zd (i := .aload_n 0) (n := 1) (by decide +kernel)) rfl rfl <|
  bb_geti (k := 292) (ci := 9) (j := 58) (idx := 251) (zd (i := .getfield 251) (n := 3) (by decide +kernel)) (by decide +kernel) (by decide +kernel) (by decide +kernel) (by decide +kernel) rfl g1186 <|
  bb_lift (fun _ => q_iconst (n := 1) (zd (i := .iconst (1)) (n := 1) (by decide +kernel)) rfl) <|
  bb_lift (fun _ => q_isub (zd (i := .isub) (n := 1) (by decide +kernel))) <|
  (fun lv hl => q_iret (zd (i := .ireturn) (n := 1) (by decide +kernel)) rfl rfl (Nat.le_refl _) (Nat.le_refl _) hQ)
theorem w_X9_forget_0 {Q : qQ} {I : qMI} {L : qML} {R : qMR}  (hQ : Q (some (.int (I 292 58))) 336 (qUp I 292 58 0) L R) : wkB l G (d + 1) n_X9_forget Q 0 [.ref 292, wkU] [] I L R :=
  bb_aload_n (n := 0) (i := 0) (zd (i := .aload_n 0) (n := 1) (by decide +kernel)) rfl rfl <|
  bb_geti (k := 292) (ci := 9) (j := 58) (idx := 251) (zd (i := .getfield 251) (n := 3) (by decide +kernel)) (by decide +kernel) (by decide +kernel) (by decide +kernel) (by decide +kernel) rfl g1186 <|
  bb_istore_n (n := 1) (i := 1) (zd (i := .istore_n 1) (n := 1) (by decide +kernel)) rfl (by decide +kernel) (wkNl_r rfl) <|
  bb_aload_n (n := 0) (i := 0) (zd (i := .aload_n 0) (n := 1) (by decide +kernel)) rfl rfl <|
  bb_lift (fun _ => q_iconst (n := 0) (zd (i := .iconst (0)) (n := 1) (by decide +kernel)) rfl) <|
  bb_puti (k := 292) (ci := 9) (j := 58) (idx := 251) (zd (i := .putfield 251) (n := 3) (by decide +kernel)) (by decide +kernel) (by decide +kernel) (by decide +kernel) (by decide +kernel) g1186 rfl rfl <|
  bb_iload_n (n := 1) (i := 1) (zd (i := .iload_n 1) (n := 1) (by decide +kernel)) rfl rfl <|
  (fun lv hl => q_iret (zd (i := .ireturn) (n := 1) (by decide +kernel)) rfl rfl (Nat.le_refl _) (Nat.le_refl _) hQ)
end
/-! ===== what is told: how many ===== -/
def oX (x : Int32) : Prop := 0 ≤ x.toInt ∧ x.toInt < 20
def oTl (x a n : Int32) : Prop := oX x ∧ (a = -1 ∨ oX a) ∧ 0 ≤ n.toInt ∧ n.toInt ≤ 24
section
variable {l : Launch} {G : qG} {d : Nat} {I : qMI} {L : qML} {R : qMR}
theorem cIsX {x : Int32} : wkCi l G (d + 1) n_X8_isX [.int x] I L R (fun y I' L' R' => R' = R ∧ L' = L ∧ I' = I ∧ ((¬ y = 0 ∧ oX x) ∨ (y = 0 ∧ ¬ oX x))) := by
  refine wkC_of 0 (by decide) (Nat.le_of_ble_eq_true rfl) (w_X8_isX_0 (fun q => ?_) (fun q => w_X8_isX_4 (fun q2 => ?_) (fun q2 => ?_)))
  · have q := i_lt.mp q
    rw [show (0 : Int32).toInt = 0 from rfl] at q
    exact w_X8_isX_14 (w_X8_isX_15 ⟨rfl, _, rfl, rfl, rfl, rfl, Or.inr ⟨rfl, fun z => by have := z.1; omega⟩⟩ (Or.inl rfl))
  · have q2 := i_le.mp q2
    rw [show (20 : Int32).toInt = 20 from rfl] at q2
    exact w_X8_isX_14 (w_X8_isX_15 ⟨rfl, _, rfl, rfl, rfl, rfl, Or.inr ⟨rfl, fun z => by have := z.2; omega⟩⟩ (Or.inl rfl))
  · have q : ¬ _ := fun z => q (i_lt.mpr z)
    have q2 : ¬ _ := fun z => q2 (i_le.mpr z)
    rw [show (0 : Int32).toInt = 0 from rfl] at q
    rw [show (20 : Int32).toInt = 20 from rfl] at q2
    exact w_X8_isX_10 (w_X8_isX_15 ⟨rfl, _, rfl, rfl, rfl, rfl, Or.inl ⟨by decide, by omega, by omega⟩⟩ (Or.inr rfl))
theorem eIn {a b c : Int32} : wkI l G (d + 1) n_X9_in [.int a, .int b, .int c] I L R (fun y I' L' => L' = L ∧ I' = I ∧ ((y = 1 ∧ b.toInt ≤ a.toInt ∧ a.toInt ≤ c.toInt) ∨ (y = 0 ∧ ¬ (b.toInt ≤ a.toInt ∧ a.toInt ≤ c.toInt)))) := by
  refine wkC_of 0 (by decide) (Nat.le_of_ble_eq_true rfl) (w_X9_in_0 (fun q => ?_) (fun q => w_X9_in_5 (fun q2 => ?_) (fun q2 => ?_)))
  · have q := i_lt.mp q
    exact w_X9_in_14 (w_X9_in_15 ⟨rfl, rfl, _, rfl, rfl, rfl, Or.inr ⟨rfl, fun z => by have := z.1; omega⟩⟩ (Or.inl rfl))
  · have q2 := i_lt.mp q2
    exact w_X9_in_14 (w_X9_in_15 ⟨rfl, rfl, _, rfl, rfl, rfl, Or.inr ⟨rfl, fun z => by have := z.2; omega⟩⟩ (Or.inl rfl))
  · have q : ¬ _ := fun z => q (i_lt.mpr z)
    have q2 : ¬ _ := fun z => q2 (i_lt.mpr z)
    exact w_X9_in_10 (w_X9_in_15 ⟨rfl, rfl, _, rfl, rfl, rfl, Or.inl ⟨rfl, by omega, by omega⟩⟩ (Or.inr rfl))
theorem eIsX {x : Int32} : wkI l G (d + 2) n_X9_isX [.int x] I L R (fun y I' L' => L' = L ∧ I' = I ∧ ((¬ y = 0 ∧ oX x) ∨ (y = 0 ∧ ¬ oX x))) := by
  refine wkC_of 0 (by decide) (Nat.le_of_ble_eq_true rfl) (w_X9_isX_0 (eIn (d := d)) (fun y I1 L1 hq => ?_))
  obtain ⟨rfl, rfl, hy⟩ := hq
  rcases hy with ⟨rfl, q1, q2⟩ | ⟨rfl, q⟩
  · rw [show (0 : Int32).toInt = 0 from rfl] at q1
    rw [show (19 : Int32).toInt = 19 from rfl] at q2
    exact w_X9_isX_7 ⟨rfl, rfl, _, rfl, rfl, rfl, Or.inl ⟨by decide, by omega, by omega⟩⟩ (Or.inr rfl)
  · rw [show (0 : Int32).toInt = 0 from rfl, show (19 : Int32).toInt = 19 from rfl] at q
    exact w_X9_isX_7 ⟨rfl, rfl, _, rfl, rfl, rfl, Or.inr ⟨rfl, fun z => q ⟨z.1, by have := z.2; omega⟩⟩⟩ (Or.inl rfl)
/-- only what is told is another -/
def cTl (I I' : qMI) : Prop := (∀ k, k ≠ 249 → k ≠ 250 → k ≠ 251 → k ≠ 252 → I' k = I k) ∧ ∀ j, j ≠ 0 → I' 249 j = I 249 j
def eTl (I I' : qMI) : Prop := (∀ k, k ≠ 292 → k ≠ 330 → k ≠ 331 → k ≠ 332 → I' k = I k) ∧ ∀ j, j ≠ 58 → I' 292 j = I 292 j
theorem cPutT (hR1 : R 249 1 = some 250) (hR2 : R 249 2 = some 251) (hR3 : R 249 3 = some 252) (h0 : 0 ≤ (I 249 0).toInt) {x a h : Int32} : wkCi l G (d + 1) n_X7_put [.ref 249, .int x, .int a, .int h] I L R (fun y I' L' R' => R' = R ∧ L' = L ∧ cTl I I' ∧ (((I 249 0).toInt < 20 ∧ (I' 249 0).toInt = (I 249 0).toInt + 1 ∧ y = I 249 0) ∨ (¬ (I 249 0).toInt < 20 ∧ I' 249 0 = I 249 0 ∧ y = -1))) := by
  refine wkC_of 0 (by decide) (Nat.le_of_ble_eq_true rfl) (w_X7_put_0 (fun q => ?_) (fun q => ?_))
  · have q := i_lt.mp q
    rw [show (20 : Int32).toInt = 20 from rfl] at q
    have v : vp_in (I 249 0) 20 := vin h0 (by omega)
    have u1 : ∀ y, (qUp I 250 y x) 249 0 = I 249 0 := fun y => qUp_ne (by omega)
    have u2 : ∀ y z, (qUp (qUp I 250 y x) 251 z a) 249 0 = I 249 0 := fun y z => by rw [qUp_ne (by omega), u1]
    have u3 : ∀ y z w, (qUp (qUp (qUp I 250 y x) 251 z a) 252 w h) 249 0 = I 249 0 := fun y z w => by rw [qUp_ne (by omega), u2]
    have s1 : (I 249 0 + 1).toInt = (I 249 0).toInt + 1 := i_s (by omega)
    refine w_X7_put_11 hR1 v hR2 (by rw [u1]; exact v) hR3 (by rw [u2]; exact v) ⟨rfl, _, rfl, rfl, rfl, ⟨fun k q1 q2 q3 q4 => ?_, fun j q => ?_⟩, Or.inl ⟨q, ?_, ?_⟩⟩
    · rw [qUp_ro q1, qUp_ro q4, qUp_ro q3, qUp_ro q2]
    · rw [qUp_ne (fun z => q z.2), qUp_ro (by decide), qUp_ro (by decide), qUp_ro (by decide)]
    · rw [qUp_at, if_pos ⟨rfl, rfl⟩, u3, s1]
    · rw [qUp_at, if_pos ⟨rfl, rfl⟩, u3]
      refine i_eq.mpr ?_
      rw [i_sub (y := 1) (by rw [s1, show (1 : Int32).toInt = 1 from rfl]; omega) (by rw [s1, show (1 : Int32).toInt = 1 from rfl]; omega), s1, show (1 : Int32).toInt = 1 from rfl]
      omega
  · have q : ¬ _ := fun z => q (i_lt.mpr z)
    rw [show (20 : Int32).toInt = 20 from rfl] at q
    exact w_X7_put_9 ⟨rfl, _, rfl, rfl, rfl, ⟨fun _ _ _ _ _ => rfl, fun _ _ => rfl⟩, Or.inr ⟨by omega, rfl, rfl⟩⟩
theorem cTellT (hR7 : R 0 7 = some 249) (hR0 : R 0 2 = some 21) (hR1 : R 249 1 = some 250) (hR2 : R 249 2 = some 251) (hR3 : R 249 3 = some 252) (h0 : 0 ≤ (I 249 0).toInt) {x a n : Int32} : wkCi l G (d + 2) n_X8_tell [.ref 0, .int x, .int a, .int n] I L R (fun y I' L' R' => R' = R ∧ L' = L ∧ cTl I I' ∧ (((I 249 0).toInt < 20 ∧ oTl x a n ∧ (I' 249 0).toInt = (I 249 0).toInt + 1 ∧ y = I 249 0) ∨ (¬ ((I 249 0).toInt < 20 ∧ oTl x a n) ∧ I' 249 0 = I 249 0 ∧ y = -1))) := by
  have bad : ¬ oTl x a n → wkB l G (d + 1 + 1) n_X8_tell (fun r t I' L' R' => t = 336 ∧ ∃ y, r = some (.int y) ∧ R' = R ∧ L' = L ∧ cTl I I' ∧ (((I 249 0).toInt < 20 ∧ oTl x a n ∧ (I' 249 0).toInt = (I 249 0).toInt + 1 ∧ y = I 249 0) ∨ (¬ ((I 249 0).toInt < 20 ∧ oTl x a n) ∧ I' 249 0 = I 249 0 ∧ y = -1))) 29 [.ref 0, .int x, .int a, .int n] [] I L R := fun q => w_X8_tell_29 ⟨rfl, _, rfl, rfl, rfl, ⟨fun _ _ _ _ _ => rfl, fun _ _ => rfl⟩, Or.inr ⟨fun z => q z.2, rfl, rfl⟩⟩
  have go : oX x → (a = -1 ∨ oX a) → wkB l G (d + 1 + 1) n_X8_tell (fun r t I' L' R' => t = 336 ∧ ∃ y, r = some (.int y) ∧ R' = R ∧ L' = L ∧ cTl I I' ∧ (((I 249 0).toInt < 20 ∧ oTl x a n ∧ (I' 249 0).toInt = (I 249 0).toInt + 1 ∧ y = I 249 0) ∨ (¬ ((I 249 0).toInt < 20 ∧ oTl x a n) ∧ I' 249 0 = I 249 0 ∧ y = -1))) 19 [.ref 0, .int x, .int a, .int n] [] I L R := fun hx ha => by
    refine w_X8_tell_19 (fun q => bad (fun z => ?_)) (fun q => w_X8_tell_23 (fun q2 => ?_) (fun q2 => bad (fun z => ?_)))
    · have q := i_lt.mp q
      rw [show (0 : Int32).toInt = 0 from rfl] at q
      have := z.2.2.1
      omega
    · have q : ¬ _ := fun z => q (i_lt.mpr z)
      have q2 := i_le.mp q2
      rw [show (0 : Int32).toInt = 0 from rfl] at q
      rw [show (24 : Int32).toInt = 24 from rfl] at q2
      have ho : oTl x a n := ⟨hx, ha, by omega, q2⟩
      refine w_X8_tell_31 hR7 hR0 (cPutT (d := d) hR1 hR2 hR3 h0) (fun y I1 L1 R1 hq => ?_)
      obtain ⟨rfl, rfl, ht, hy⟩ := hq
      refine w_X8_tell_49 ⟨rfl, _, rfl, rfl, rfl, ht, ?_⟩
      rcases hy with ⟨b1, b2, b3⟩ | ⟨b1, b2, b3⟩
      · exact Or.inl ⟨b1, ho, b2, b3⟩
      · exact Or.inr ⟨fun z => b1 z.1, b2, b3⟩
    · have q2 : ¬ _ := fun w => q2 (i_le.mpr w)
      rw [show (24 : Int32).toInt = 24 from rfl] at q2
      have := z.2.2.2
      omega
  refine wkC_of 0 (by decide) (Nat.le_of_ble_eq_true rfl) (w_X8_tell_0 (cIsX (d := d)) (fun y I1 L1 R1 hq => ?_))
  obtain ⟨rfl, rfl, rfl, hy⟩ := hq
  refine w_X8_tell_4 (fun q => bad (fun z => ?_)) (fun q => ?_)
  · rcases hy with ⟨b1, -⟩ | ⟨-, b2⟩
    · exact b1 q
    · exact b2 z.1
  · have hx : oX x := by
      rcases hy with ⟨-, b⟩ | ⟨b, -⟩
      · exact b
      · exact absurd b q
    refine w_X8_tell_7 (fun e => go hx (Or.inl e)) (fun e => w_X8_tell_12 (cIsX (d := d)) (fun y2 I2 L2 R2 hq => ?_))
    obtain ⟨rfl, rfl, rfl, hy2⟩ := hq
    refine w_X8_tell_16 (fun q2 => bad (fun z => ?_)) (fun q2 => go hx (Or.inr ?_))
    · rcases hy2 with ⟨b1, -⟩ | ⟨-, b2⟩
      · exact b1 q2
      · rcases z.2.1 with z | z
        · exact e z
        · exact b2 z
    · rcases hy2 with ⟨-, b⟩ | ⟨b, -⟩
      · exact b
      · exact absurd b q2
theorem cForT (hR7 : R 0 7 = some 249) : wkCi l G (d + 1) n_X8_forget [.ref 0] I L R (fun y I' L' R' => R' = R ∧ L' = L ∧ cTl I I' ∧ y = I 249 0 ∧ I' 249 0 = 0) := by
  refine wkC_of 1 (by decide) (Nat.le_of_ble_eq_true rfl) (w_X8_forget_0 hR7 hR7 ⟨rfl, _, rfl, rfl, rfl, ⟨fun k q _ _ _ => qUp_ro q, fun j q => qUp_ne (fun z => q z.2)⟩, rfl, ?_⟩)
  rw [qUp_at, if_pos ⟨rfl, rfl⟩]
theorem eForT : wkI l G (d + 1) n_X9_forget [.ref 292] I L R (fun y I' L' => L' = L ∧ eTl I I' ∧ y = I 292 58 ∧ I' 292 58 = 0) := by
  refine wkC_of 1 (by decide) (Nat.le_of_ble_eq_true rfl) (w_X9_forget_0 ⟨rfl, rfl, _, rfl, rfl, ⟨fun k q _ _ _ => qUp_ro q, fun j q => qUp_ne (fun z => q z.2)⟩, rfl, ?_⟩)
  rw [qUp_at, if_pos ⟨rfl, rfl⟩]
theorem eTellT (hR : wkR R) (h0 : 0 ≤ (I 292 58).toInt) (h1 : (I 292 58).toInt ≤ 20) {x a n : Int32} : wkI l G (d + 3) n_X9_tell [.ref 292, .int x, .int a, .int n] I L R (fun y I' L' => L' = L ∧ eTl I I' ∧ (((I 292 58).toInt < 20 ∧ oTl x a n ∧ (I' 292 58).toInt = (I 292 58).toInt + 1 ∧ y = I 292 58) ∨ (¬ ((I 292 58).toInt < 20 ∧ oTl x a n) ∧ I' 292 58 = I 292 58 ∧ y = -1))) := by
  have bad : ¬ ((I 292 58).toInt < 20 ∧ oTl x a n) → wkB l G (d + 2 + 1) n_X9_tell (wkPI R (fun y I' L' => L' = L ∧ eTl I I' ∧ (((I 292 58).toInt < 20 ∧ oTl x a n ∧ (I' 292 58).toInt = (I 292 58).toInt + 1 ∧ y = I 292 58) ∨ (¬ ((I 292 58).toInt < 20 ∧ oTl x a n) ∧ I' 292 58 = I 292 58 ∧ y = -1)))) 38 [.ref 292, .int x, .int a, .int n] [] I L R := fun q => w_X9_tell_38 ⟨rfl, rfl, _, rfl, rfl, ⟨fun _ _ _ _ _ => rfl, fun _ _ => rfl⟩, Or.inr ⟨q, rfl, rfl⟩⟩
  refine wkC_of 0 (by decide) (Nat.le_of_ble_eq_true rfl) (w_X9_tell_0 (fun q => bad (fun z => ?_)) (fun q => ?_))
  · rw [q, show (20 : Int32).toInt = 20 from rfl] at z
    omega
  have h20 : (I 292 58).toInt < 20 := by
    have : (I 292 58).toInt ≠ 20 := fun e => q (i_eq.mpr (by rw [e]; rfl))
    omega
  have s1 : (I 292 58 + 1).toInt = (I 292 58).toInt + 1 := i_s (by omega)
  have v : vp_in (I 292 58) 20 := vin h0 (by omega)
  have last : oTl x a n → wkB l G (d + 2 + 1) n_X9_tell (wkPI R (fun y I' L' => L' = L ∧ eTl I I' ∧ (((I 292 58).toInt < 20 ∧ oTl x a n ∧ (I' 292 58).toInt = (I 292 58).toInt + 1 ∧ y = I 292 58) ∨ (¬ ((I 292 58).toInt < 20 ∧ oTl x a n) ∧ I' 292 58 = I 292 58 ∧ y = -1)))) 40 [.ref 292, .int x, .int a, .int n] [] I L R := fun ho => by
    have u1 : ∀ y, (qUp I 330 y x) 292 58 = I 292 58 := fun y => qUp_ne (by omega)
    have fin : ∀ s : Int32, wkB l G (d + 2 + 1) n_X9_tell (wkPI R (fun y I' L' => L' = L ∧ eTl I I' ∧ (((I 292 58).toInt < 20 ∧ oTl x a n ∧ (I' 292 58).toInt = (I 292 58).toInt + 1 ∧ y = I 292 58) ∨ (¬ ((I 292 58).toInt < 20 ∧ oTl x a n) ∧ I' 292 58 = I 292 58 ∧ y = -1)))) 69 [.ref 292, .int x, .int a, .int n] [.int s, .int (I 292 58), .ref 331] (qUp I 330 (I 292 58).toNatClampNeg x) L R := fun s => by
      have u2 : ∀ y z, (qUp (qUp I 330 y x) 331 z s) 292 58 = I 292 58 := fun y z => by rw [qUp_ne (by omega), u1]
      have u3 : ∀ y z w, (qUp (qUp (qUp I 330 y x) 331 z s) 332 w n) 292 58 = I 292 58 := fun y z w => by rw [qUp_ne (by omega), u2]
      refine w_X9_tell_69 hR v (by rw [u2]; exact v) ⟨rfl, rfl, _, rfl, rfl, ⟨fun k q1 q2 q3 q4 => ?_, fun j q => ?_⟩, Or.inl ⟨h20, ho, ?_, ?_⟩⟩
      · rw [qUp_ro q1, qUp_ro q4, qUp_ro q3, qUp_ro q2]
      · rw [qUp_ne (fun z => q z.2), qUp_ro (by decide), qUp_ro (by decide), qUp_ro (by decide)]
      · rw [qUp_at, if_pos ⟨rfl, rfl⟩, u3, s1]
      · rw [qUp_at, if_pos ⟨rfl, rfl⟩, u3]
        refine i_eq.mpr ?_
        rw [i_sub (y := 1) (by rw [s1, show (1 : Int32).toInt = 1 from rfl]; omega) (by rw [s1, show (1 : Int32).toInt = 1 from rfl]; omega), s1, show (1 : Int32).toInt = 1 from rfl]
        omega
    refine w_X9_tell_40 hR v (fun _ => ?_) (fun _ => ?_)
    · rw [u1]; exact w_X9_tell_68 (fin _)
    · rw [u1]; exact w_X9_tell_63 (fin _)
  have go : oX x → (a = -1 ∨ oX a) → wkB l G (d + 2 + 1) n_X9_tell (wkPI R (fun y I' L' => L' = L ∧ eTl I I' ∧ (((I 292 58).toInt < 20 ∧ oTl x a n ∧ (I' 292 58).toInt = (I 292 58).toInt + 1 ∧ y = I 292 58) ∨ (¬ ((I 292 58).toInt < 20 ∧ oTl x a n) ∧ I' 292 58 = I 292 58 ∧ y = -1)))) 28 [.ref 292, .int x, .int a, .int n] [] I L R := fun hx ha => by
    refine w_X9_tell_28 (eIn (d := d + 1)) (fun y I1 L1 hq => ?_)
    obtain ⟨rfl, rfl, hy⟩ := hq
    rw [show (0 : Int32).toInt = 0 from rfl, show (24 : Int32).toInt = 24 from rfl] at hy
    refine w_X9_tell_35 (fun q => last ?_) (fun q => bad (fun z => ?_))
    · rcases hy with ⟨-, b1, b2⟩ | ⟨b, -⟩
      · exact ⟨hx, ha, b1, b2⟩
      · exact absurd b q
    · rcases hy with ⟨b, -⟩ | ⟨-, b⟩
      · rw [b] at q; exact absurd q (by decide)
      · exact b z.2.2.2
  refine w_X9_tell_9 (eIsX (d := d)) (fun y I1 L1 hq => ?_)
  obtain ⟨rfl, rfl, hy⟩ := hq
  refine w_X9_tell_13 (fun q => bad (fun z => ?_)) (fun q => ?_)
  · rcases hy with ⟨b1, -⟩ | ⟨-, b2⟩
    · exact b1 q
    · exact b2 z.2.1
  · have hx : oX x := by
      rcases hy with ⟨-, b⟩ | ⟨b, -⟩
      · exact b
      · exact absurd b q
    refine w_X9_tell_16 (fun e => go hx (Or.inl e)) (fun e => w_X9_tell_21 (eIsX (d := d)) (fun y2 I2 L2 hq => ?_))
    obtain ⟨rfl, rfl, hy2⟩ := hq
    refine w_X9_tell_25 (fun q2 => bad (fun z => ?_)) (fun q2 => go hx (Or.inr ?_))
    · rcases hy2 with ⟨b1, -⟩ | ⟨-, b2⟩
      · exact b1 q2
      · rcases z.2.2.1 with z | z
        · exact e z
        · exact b2 z
    · rcases hy2 with ⟨-, b⟩ | ⟨b, -⟩
      · exact b
      · exact absurd b q2
end
/-! ===== what is told, between two calls ===== -/
def zTd (A : zAm) : Prop := (ztag (zcell A 249) = 7 ∧ Nat.xor (zraw (zcell A 249) 0) 2147483648 = 9223372043297226772) ∧ (zlx (zcell A 250) = true ∧ zlx (zcell A 251) = true ∧ zlx (zcell A 252) = true) ∧ (ztag (zcell A 292) = 9 ∧ Nat.xor (zraw (zcell A 292) 58) 2147483648 = 9223372043297226772) ∧ (zlx (zcell A 330) = true ∧ zlx (zcell A 331) = true ∧ zlx (zcell A 332) = true) ∧ ∀ k, k < 336 → ztag (zcell A k) ≠ 13
theorem zTd0 : zTd zAi0 := ⟨⟨by decide +kernel, by decide +kernel⟩, ⟨by decide +kernel, by decide +kernel, by decide +kernel⟩, ⟨by decide +kernel, by decide +kernel⟩, ⟨by decide +kernel, by decide +kernel, by decide +kernel⟩, zRef0.c13⟩
theorem zTd1 : zTd zAi1 := ⟨⟨by decide +kernel, by decide +kernel⟩, ⟨by decide +kernel, by decide +kernel, by decide +kernel⟩, ⟨by decide +kernel, by decide +kernel⟩, ⟨by decide +kernel, by decide +kernel, by decide +kernel⟩, zRef1.c13⟩
def zTr (R : qMR) : Prop := R 0 7 = some 249 ∧ R 0 2 = some 21 ∧ R 249 1 = some 250 ∧ R 249 2 = some 251 ∧ R 249 3 = some 252
theorem vTl {I : qMI} {L : qML} {R : qMR} (hv : vInv I L R) : ∃ A, zTd A ∧ zTr R ∧ zM (I, L, R) 336 A I L R ∧ zGood (I, L, R) ∧ ∀ I' L' R', zM (I', L', R') 336 A I' L' R' ∧ zGood (I', L', R') → vInv I' L' R' := by
  obtain ⟨hm | hm, hg⟩ := hv
  · exact ⟨_, zTd0, ⟨vRef hm (by decide +kernel) (by decide +kernel) (by decide +kernel), vRef hm (by decide +kernel) (by decide +kernel) (by decide +kernel), vRef hm (by decide +kernel) (by decide +kernel) (by decide +kernel), vRef hm (by decide +kernel) (by decide +kernel) (by decide +kernel), vRef hm (by decide +kernel) (by decide +kernel) (by decide +kernel)⟩, hm, hg, fun I' L' R' h => ⟨Or.inl h.1, h.2⟩⟩
  · exact ⟨_, zTd1, ⟨vRef hm (by decide +kernel) (by decide +kernel) (by decide +kernel), vRef hm (by decide +kernel) (by decide +kernel) (by decide +kernel), vRef hm (by decide +kernel) (by decide +kernel) (by decide +kernel), vRef hm (by decide +kernel) (by decide +kernel) (by decide +kernel), vRef hm (by decide +kernel) (by decide +kernel) (by decide +kernel)⟩, hm, hg, fun I' L' R' h => ⟨Or.inr h.1, h.2⟩⟩
theorem zTd_b {A : zAm} {I : qMI} {L : qML} {R : qMR} (hA : zTd A) (hm : zM (I, L, R) 336 A I L R) : (0 ≤ (I 249 0).toInt ∧ (I 249 0).toInt ≤ 20) ∧ 0 ≤ (I 292 58).toInt ∧ (I 292 58).toInt ≤ 20 := by
  obtain ⟨⟨a1, a2⟩, -, ⟨b1, b2⟩, -⟩ := hA
  have h1 := ((hm.1.1 249 (by rw [a1]; decide)).2.2.2 0).1 (by rw [a1]; decide +kernel)
  have h2 := ((hm.1.1 292 (by rw [b1]; decide)).2.2.2 58).1 (by rw [b1]; decide +kernel)
  rw [a2] at h1
  rw [b2] at h2
  have := zin_b2 h1 (a := 2147483648) (b := 2147483668) (by decide) (by decide)
  have := zin_b2 h2 (a := 2147483648) (b := 2147483668) (by decide) (by decide)
  omega
theorem vToldC {A : zAm} {I I' : qMI} {L : qML} {R : qMR} (hA : zTd A) (hm : zM (I, L, R) 336 A I L R) (hg : zGood (I, L, R)) (h : cTl I I') (h1 : 0 ≤ (I' 249 0).toInt ∧ (I' 249 0).toInt ≤ 20) : zM (I', L, R) 336 A I' L R ∧ zGood (I', L, R) := by
  obtain ⟨⟨a1, a2⟩, ⟨l1, l2, l3⟩, -, -, h13⟩ := hA
  refine ⟨zM_ch hm h13 (fun k hk => ?_), zGood_ok _ I' L R hg (fun x hx => ?_) (fun j _ => by rw [h.1 292 (by decide) (by decide) (by decide) (by decide)])⟩
  · rcases (show k = 249 ∨ k = 250 ∨ k = 251 ∨ k = 252 ∨ (k ≠ 249 ∧ k ≠ 250 ∧ k ≠ 251 ∧ k ≠ 252) by omega) with rfl | rfl | rfl | rfl | ⟨q1, q2, q3, q4⟩
    · refine Or.inr (Or.inr ⟨fun q j hq => ?_, fun q _ => by omega⟩)
      by_cases e : j = 0
      · subst e
        rw [a2]
        exact zin_of (a := 2147483648) (b := 2147483668) (by decide) (by decide) (by omega) (by omega)
      · rw [h.2 j e]
        exact ((hm.1.1 249 q).2.2.2 j).1 hq
    · exact Or.inr (Or.inl l1)
    · exact Or.inr (Or.inl l2)
    · exact Or.inr (Or.inl l3)
    · exact Or.inl (h.1 k q1 q2 q3 q4)
  · have hx : 292 ≤ x := by
      unfold zUN at hx
      simp only [List.mem_cons, List.not_mem_nil, or_false] at hx
      omega
    exact ⟨h.1 x (by omega) (by omega) (by omega) (by omega), rfl, rfl⟩
theorem vToldM {A : zAm} {I I' : qMI} {L : qML} {R : qMR} (hA : zTd A) (hm : zM (I, L, R) 336 A I L R) (hg : zGood (I, L, R)) (h : eTl I I') (h1 : 0 ≤ (I' 292 58).toInt ∧ (I' 292 58).toInt ≤ 20) : zM (I', L, R) 336 A I' L R ∧ zGood (I', L, R) := by
  obtain ⟨-, -, ⟨a1, a2⟩, ⟨l1, l2, l3⟩, h13⟩ := hA
  have hc : ∀ x ∈ zUN, I' x = I x := fun x hx => by
    unfold zUN at hx
    simp only [List.mem_cons, List.not_mem_nil, or_false] at hx
    exact h.1 x (by omega) (by omega) (by omega) (by omega)
  refine ⟨zM_ch hm h13 (fun k hk => ?_), ?_⟩
  · rcases (show k = 292 ∨ k = 330 ∨ k = 331 ∨ k = 332 ∨ (k ≠ 292 ∧ k ≠ 330 ∧ k ≠ 331 ∧ k ≠ 332) by omega) with rfl | rfl | rfl | rfl | ⟨q1, q2, q3, q4⟩
    · refine Or.inr (Or.inr ⟨fun q j hq => ?_, fun q _ => by omega⟩)
      by_cases e : j = 58
      · subst e
        rw [a2]
        exact zin_of (a := 2147483648) (b := 2147483668) (by decide) (by decide) (by omega) (by omega)
      · rw [h.2 j e]
        exact ((hm.1.1 292 q).2.2.2 j).1 hq
    · exact Or.inr (Or.inl l1)
    · exact Or.inr (Or.inl l2)
    · exact Or.inr (Or.inl l3)
    · exact Or.inl (h.1 k q1 q2 q3 q4)
  · rcases hg with ⟨h1, h3, h4⟩ | ⟨h1, h3, h4⟩
    · exact Or.inl ⟨(h.2 18 (by decide)).trans h1, zside_congr hc h3, zreg_congr hc h4⟩
    · exact Or.inr ⟨(h.2 18 (by decide)).trans h1, zside_congr hc h3, zreg_congr hc h4⟩
