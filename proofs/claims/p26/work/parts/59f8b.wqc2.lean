
section
variable {l : Launch} {G : qG} {d : Nat}
theorem w_X8_heatIn_0 {Q : qQ} {I : qMI} {L : qML} {R : qMR} {a1 : Int32} {P : Int32 → qMI → qML → qMR → Prop} (hc : wkCi l G d n_X8_isAhead [.int a1] I L R P) (kk : ∀ y I' L' R', P y I' L' R' → wkB l G (d + 1) n_X8_heatIn Q 4 [.ref 0, .int a1] [.int y] I' L' R') : wkB l G (d + 1) n_X8_heatIn Q 0 [.ref 0, .int a1] [] I L R :=
  bb_iload_n (n := 1) (i := 1) (zd (i := .iload_n 1) (n := 1) (by decide +kernel)) rfl rfl <|
  bb_callS (idx := 207) (N := n_X8_isAhead) (As := [.int a1]) (st := []) (zd (i := .invokestatic 207) (n := 3) (by decide +kernel)) to_X8_isAhead g862 g863 (Nat.le_of_ble_eq_true rfl) rfl rfl hc (fun r I' L' R' hq => by obtain ⟨y, rfl, hp⟩ := hq; exact kk y I' L' R' hp)
theorem w_X8_heatIn_4 {Q : qQ} {I : qMI} {L : qML} {R : qMR} {a1 : Int32} {s0 : Int32} (kt : s0 = 0 → wkB l G (d + 1) n_X8_heatIn Q 26 [.ref 0, .int a1] [] I L R) (kf : ¬ s0 = 0 → wkB l G (d + 1) n_X8_heatIn Q 7 [.ref 0, .int a1] [] I L R) : wkB l G (d + 1) n_X8_heatIn Q 4 [.ref 0, .int a1] [.int s0] I L R :=
  (fun lv hl => q_if_eq (off := 22) (tgt := 26) (zd (i := .ifCond .eq (22)) (n := 3) (by decide +kernel)) (by decide) (fun h => (kt h) lv hl) (fun h => (kf h) lv hl))
theorem w_X8_heatIn_7 {Q : qQ} {I : qMI} {L : qML} {R : qMR} {o : Nat} (ho : o = 9 ∨ o = 259) {a1 : Int32} (h1 : R 0 12 = some o) (h2 : R 0 2 = some 21) {P : Int32 → qMI → qML → qMR → Prop} (hc : wkCi l G d n_X0_heat [.ref o, .int ((I 21 0) + a1)] I L R P) (kk : ∀ y I' L' R', P y I' L' R' → wkB l G (d + 1) n_X8_heatIn Q 23 [.ref 0, .int a1] [.int y] I' L' R') : wkB l G (d + 1) n_X8_heatIn Q 7 [.ref 0, .int a1] [] I L R :=
  bb_aload_n (n := 0) (i := 0) (zd (i := .aload_n 0) (n := 1) (by decide +kernel)) rfl rfl <|
  bb_getr (k := 0) (ci := 8) (j := 12) (idx := 71) (a := o) (zd (i := .getfield 71) (n := 3) (by decide +kernel)) (by decide +kernel) (by decide +kernel) (by decide +kernel) (by decide +kernel) rfl g464 h1 <|
  bb_aload_n (n := 0) (i := 0) (zd (i := .aload_n 0) (n := 1) (by decide +kernel)) rfl rfl <|
  bb_getr (k := 0) (ci := 8) (j := 2) (idx := 26) (a := 21) (zd (i := .getfield 26) (n := 3) (by decide +kernel)) (by decide +kernel) (by decide +kernel) (by decide +kernel) (by decide +kernel) rfl g454 h2 <|
  bb_geti (k := 21) (ci := 4) (j := 0) (idx := 140) (zd (i := .getfield 140) (n := 3) (by decide +kernel)) (by decide +kernel) (by decide +kernel) (by decide +kernel) (by decide +kernel) rfl g368 <|
  bb_iload_n (n := 1) (i := 1) (zd (i := .iload_n 1) (n := 1) (by decide +kernel)) rfl rfl <|
  bb_lift (fun _ => q_iadd (zd (i := .iadd) (n := 1) (by decide +kernel))) <|
  bb_callV (idx := 143) (k := o) (ci := 0) (N := n_X0_heat) (As := [.int ((I 21 0) + a1)]) (st := []) (zd (i := .invokevirtual 143) (n := 3) (by decide +kernel)) to_X0_heat g716 g717 g718 (Nat.le_of_ble_eq_true rfl) (by rcases ho with rfl | rfl <;> decide +kernel) (by rcases ho with rfl | rfl <;> decide +kernel) (by decide +kernel) rfl rfl rfl hc (fun r I' L' R' hq => by obtain ⟨y, rfl, hp⟩ := hq; exact kk y I' L' R' hp)
theorem w_X8_heatIn_23 {Q : qQ} {I : qMI} {L : qML} {R : qMR} {a1 : Int32} {s0 : Int32} (k : wkB l G (d + 1) n_X8_heatIn Q 27 [.ref 0, .int a1] [.int s0] I L R) : wkB l G (d + 1) n_X8_heatIn Q 23 [.ref 0, .int a1] [.int s0] I L R :=
  bb_lift (fun _ => q_goto (off := 4) (tgt := 27) (zd (i := .goto (4)) (n := 3) (by decide +kernel)) (by decide)) k
theorem w_X8_heatIn_26 {Q : qQ} {I : qMI} {L : qML} {R : qMR} {a1 : Int32} (k : wkB l G (d + 1) n_X8_heatIn Q 27 [.ref 0, .int a1] [.int (-1)] I L R) : wkB l G (d + 1) n_X8_heatIn Q 26 [.ref 0, .int a1] [] I L R :=
  bb_lift (fun _ => q_iconst (n := -1) (zd (i := .iconst (-1)) (n := 1) (by decide +kernel)) rfl) <|
  k
theorem w_X8_heatIn_27 {Q : qQ} {I : qMI} {L : qML} {R : qMR} {a1 : Int32} {s0 : Int32} (hQ : Q (some (.int s0)) 336 I L R) : wkB l G (d + 1) n_X8_heatIn Q 27 [.ref 0, .int a1] [.int s0] I L R :=
  (fun lv hl => q_iret (zd (i := .ireturn) (n := 1) (by decide +kernel)) rfl rfl (Nat.le_refl _) (Nat.le_refl _) hQ)
theorem w_X8_dawns_0 {Q : qQ} {I : qMI} {L : qML} {R : qMR} {a1 : Int32} {a2 : Int32} {P : Int32 → qMI → qML → qMR → Prop} (hc : wkCi l G d n_X8_isX [.int a1] I L R P) (kk : ∀ y I' L' R', P y I' L' R' → wkB l G (d + 1) n_X8_dawns Q 4 [.ref 0, .int a1, .int a2, wkU, wkU] [.int y] I' L' R') : wkB l G (d + 1) n_X8_dawns Q 0 [.ref 0, .int a1, .int a2, wkU, wkU] [] I L R :=
  bb_iload_n (n := 1) (i := 1) (zd (i := .iload_n 1) (n := 1) (by decide +kernel)) rfl rfl <|
  bb_callS (idx := 175) (N := n_X8_isX) (As := [.int a1]) (st := []) (zd (i := .invokestatic 175) (n := 3) (by decide +kernel)) to_X8_isX g805 g806 (Nat.le_of_ble_eq_true rfl) rfl rfl hc (fun r I' L' R' hq => by obtain ⟨y, rfl, hp⟩ := hq; exact kk y I' L' R' hp)
theorem w_X8_dawns_4 {Q : qQ} {I : qMI} {L : qML} {R : qMR} {a1 : Int32} {a2 : Int32} {s0 : Int32} (kt : s0 = 0 → wkB l G (d + 1) n_X8_dawns Q 15 [.ref 0, .int a1, .int a2, wkU, wkU] [] I L R) (kf : ¬ s0 = 0 → wkB l G (d + 1) n_X8_dawns Q 7 [.ref 0, .int a1, .int a2, wkU, wkU] [] I L R) : wkB l G (d + 1) n_X8_dawns Q 4 [.ref 0, .int a1, .int a2, wkU, wkU] [.int s0] I L R :=
  (fun lv hl => q_if_eq (off := 11) (tgt := 15) (zd (i := .ifCond .eq (11)) (n := 3) (by decide +kernel)) (by decide) (fun h => (kt h) lv hl) (fun h => (kf h) lv hl))
theorem w_X8_dawns_7 {Q : qQ} {I : qMI} {L : qML} {R : qMR} {a1 : Int32} {a2 : Int32} {P : Int32 → qMI → qML → qMR → Prop} (hc : wkCi l G d n_X8_isThing [.ref 0, .int a2] I L R P) (kk : ∀ y I' L' R', P y I' L' R' → wkB l G (d + 1) n_X8_dawns Q 12 [.ref 0, .int a1, .int a2, wkU, wkU] [.int y] I' L' R') : wkB l G (d + 1) n_X8_dawns Q 7 [.ref 0, .int a1, .int a2, wkU, wkU] [] I L R :=
  bb_aload_n (n := 0) (i := 0) (zd (i := .aload_n 0) (n := 1) (by decide +kernel)) rfl rfl <|
  bb_iload_n (n := 2) (i := 2) (zd (i := .iload_n 2) (n := 1) (by decide +kernel)) rfl rfl <|
  bb_callV (idx := 115) (k := 0) (ci := 8) (N := n_X8_isThing) (As := [.int a2]) (st := []) (zd (i := .invokevirtual 115) (n := 3) (by decide +kernel)) to_X8_isThing g708 g710 g17 (Nat.le_of_ble_eq_true rfl) (by decide +kernel) (by decide +kernel) (by decide +kernel) rfl rfl rfl hc (fun r I' L' R' hq => by obtain ⟨y, rfl, hp⟩ := hq; exact kk y I' L' R' hp)
theorem w_X8_dawns_12 {Q : qQ} {I : qMI} {L : qML} {R : qMR} {a1 : Int32} {a2 : Int32} {s0 : Int32} (kt : ¬ s0 = 0 → wkB l G (d + 1) n_X8_dawns Q 17 [.ref 0, .int a1, .int a2, wkU, wkU] [] I L R) (kf : s0 = 0 → wkB l G (d + 1) n_X8_dawns Q 15 [.ref 0, .int a1, .int a2, wkU, wkU] [] I L R) : wkB l G (d + 1) n_X8_dawns Q 12 [.ref 0, .int a1, .int a2, wkU, wkU] [.int s0] I L R :=
  (fun lv hl => q_if_ne (off := 5) (tgt := 17) (zd (i := .ifCond .ne (5)) (n := 3) (by decide +kernel)) (by decide) (fun h => (kt h) lv hl) (fun h => (kf h) lv hl))
theorem w_X8_dawns_15 {Q : qQ} {I : qMI} {L : qML} {R : qMR} {a1 : Int32} {a2 : Int32} (hQ : Q (some (.int (-1))) 336 I L R) : wkB l G (d + 1) n_X8_dawns Q 15 [.ref 0, .int a1, .int a2, wkU, wkU] [] I L R :=
  bb_lift (fun _ => q_iconst (n := -1) (zd (i := .iconst (-1)) (n := 1) (by decide +kernel)) rfl) <|
  (fun lv hl => q_iret (zd (i := .ireturn) (n := 1) (by decide +kernel)) rfl rfl (Nat.le_refl _) (Nat.le_refl _) hQ)
theorem w_X8_dawns_17 {Q : qQ} {I : qMI} {L : qML} {R : qMR} {a1 : Int32} {a2 : Int32} (k : wkB l G (d + 1) n_X8_dawns Q 19 [.ref 0, .int a1, .int a2, .int 0, wkU] [] I L R) : wkB l G (d + 1) n_X8_dawns Q 17 [.ref 0, .int a1, .int a2, wkU, wkU] [] I L R :=
  bb_lift (fun _ => q_iconst (n := 0) (zd (i := .iconst (0)) (n := 1) (by decide +kernel)) rfl) <|
  bb_istore_n (n := 3) (i := 3) (zd (i := .istore_n 3) (n := 1) (by decide +kernel)) rfl (by decide +kernel) (wkNl_i rfl) <|
  k
theorem w_X8_dawns_19 {Q : qQ} {I : qMI} {L : qML} {R : qMR} {a1 : Int32} {a2 : Int32} {a3 : Int32} (kt : 48 < a3 → wkB l G (d + 1) n_X8_dawns Q 67 [.ref 0, .int a1, .int a2, .int a3, wkU] [] I L R) (kf : ¬ 48 < a3 → wkB l G (d + 1) n_X8_dawns Q 25 [.ref 0, .int a1, .int a2, .int a3, wkU] [] I L R) : wkB l G (d + 1) n_X8_dawns Q 19 [.ref 0, .int a1, .int a2, .int a3, wkU] [] I L R :=
  bb_iload_n (n := 3) (i := 3) (zd (i := .iload_n 3) (n := 1) (by decide +kernel)) rfl rfl <|
  bb_lift (fun _ => q_bipush (n := 48) (zd (i := .bipush (48)) (n := 2) (by decide +kernel)) rfl) <|
  (fun lv hl => q_icmp_gt (off := 45) (tgt := 67) (zd (i := .if_icmp .gt (45)) (n := 3) (by decide +kernel)) (by decide) (fun h => (kt h) lv hl) (fun h => (kf h) lv hl))
theorem w_X8_dawns_25 {Q : qQ} {I : qMI} {L : qML} {R : qMR} {o : Nat} (ho : o = 9 ∨ o = 259) {a1 : Int32} {a2 : Int32} {a3 : Int32} (h1 : R 0 2 = some 21) (h2 : R 0 12 = some o) (h3 : R 0 12 = some o) {P : Int32 → qMI → qML → qMR → Prop} (hc : wkCi l G d n_X0_heat [.ref o, .int ((I 21 0) + a3)] I L R P) (kk : ∀ y I' L' R', P y I' L' R' → wkB l G (d + 1) n_X8_dawns Q 53 [.ref 0, .int a1, .int a2, .int a3, .int ((I 21 0) + a3)] [.int y, .int ((I 21 0) + a3), .int a2, .int a1, .ref o] I' L' R') : wkB l G (d + 1) n_X8_dawns Q 25 [.ref 0, .int a1, .int a2, .int a3, wkU] [] I L R :=
  bb_aload_n (n := 0) (i := 0) (zd (i := .aload_n 0) (n := 1) (by decide +kernel)) rfl rfl <|
  bb_getr (k := 0) (ci := 8) (j := 2) (idx := 26) (a := 21) (zd (i := .getfield 26) (n := 3) (by decide +kernel)) (by decide +kernel) (by decide +kernel) (by decide +kernel) (by decide +kernel) rfl g454 h1 <|
  bb_geti (k := 21) (ci := 4) (j := 0) (idx := 140) (zd (i := .getfield 140) (n := 3) (by decide +kernel)) (by decide +kernel) (by decide +kernel) (by decide +kernel) (by decide +kernel) rfl g368 <|
  bb_iload_n (n := 3) (i := 3) (zd (i := .iload_n 3) (n := 1) (by decide +kernel)) rfl rfl <|
  bb_lift (fun _ => q_iadd (zd (i := .iadd) (n := 1) (by decide +kernel))) <|
  bb_istore (i := 4) (zd (i := .istore 4) (n := 2) (by decide +kernel)) (by decide +kernel) (wkNl_i rfl) <|
  bb_aload_n (n := 0) (i := 0) (zd (i := .aload_n 0) (n := 1) (by decide +kernel)) rfl rfl <|
  bb_getr (k := 0) (ci := 8) (j := 12) (idx := 71) (a := o) (zd (i := .getfield 71) (n := 3) (by decide +kernel)) (by decide +kernel) (by decide +kernel) (by decide +kernel) (by decide +kernel) rfl g464 h2 <|
  bb_iload_n (n := 1) (i := 1) (zd (i := .iload_n 1) (n := 1) (by decide +kernel)) rfl rfl <|
  bb_iload_n (n := 2) (i := 2) (zd (i := .iload_n 2) (n := 1) (by decide +kernel)) rfl rfl <|
  bb_iload (i := 4) (zd (i := .iload 4) (n := 2) (by decide +kernel)) rfl <|
  bb_aload_n (n := 0) (i := 0) (zd (i := .aload_n 0) (n := 1) (by decide +kernel)) rfl rfl <|
  bb_getr (k := 0) (ci := 8) (j := 12) (idx := 71) (a := o) (zd (i := .getfield 71) (n := 3) (by decide +kernel)) (by decide +kernel) (by decide +kernel) (by decide +kernel) (by decide +kernel) rfl g464 h3 <|
  bb_iload (i := 4) (zd (i := .iload 4) (n := 2) (by decide +kernel)) rfl <|
  bb_callV (idx := 143) (k := o) (ci := 0) (N := n_X0_heat) (As := [.int ((I 21 0) + a3)]) (st := [.int ((I 21 0) + a3), .int a2, .int a1, .ref o]) (zd (i := .invokevirtual 143) (n := 3) (by decide +kernel)) to_X0_heat g716 g717 g718 (Nat.le_of_ble_eq_true rfl) (by rcases ho with rfl | rfl <;> decide +kernel) (by rcases ho with rfl | rfl <;> decide +kernel) (by decide +kernel) rfl rfl rfl hc (fun r I' L' R' hq => by obtain ⟨y, rfl, hp⟩ := hq; exact kk y I' L' R' hp)
theorem w_X8_dawns_53 {Q : qQ} {I : qMI} {L : qML} {R : qMR} {o : Nat} (ho : o = 9 ∨ o = 259) {a1 : Int32} {a2 : Int32} {a3 : Int32} {a4 : Int32} {s1 : Int32} {s2 : Int32} {s3 : Int32} {s4 : Int32} {P : Int32 → qMI → qML → qMR → Prop} (hc : wkCi l G d n_X0_isSeenFrom [.ref o, .int s1, .int s2, .int s3, .int s4] I L R P) (kk : ∀ y I' L' R', P y I' L' R' → wkB l G (d + 1) n_X8_dawns Q 56 [.ref 0, .int a1, .int a2, .int a3, .int a4] [.int y] I' L' R') : wkB l G (d + 1) n_X8_dawns Q 53 [.ref 0, .int a1, .int a2, .int a3, .int a4] [.int s4, .int s3, .int s2, .int s1, .ref o] I L R :=
  bb_callV (idx := 239) (k := o) (ci := 0) (N := n_X0_isSeenFrom) (As := [.int s1, .int s2, .int s3, .int s4]) (st := []) (zd (i := .invokevirtual 239) (n := 3) (by decide +kernel)) to_X0_isSeenFrom g745 g746 g747 (Nat.le_of_ble_eq_true rfl) (by rcases ho with rfl | rfl <;> decide +kernel) (by rcases ho with rfl | rfl <;> decide +kernel) (by decide +kernel) rfl rfl rfl hc (fun r I' L' R' hq => by obtain ⟨y, rfl, hp⟩ := hq; exact kk y I' L' R' hp)
theorem w_X8_dawns_56 {Q : qQ} {I : qMI} {L : qML} {R : qMR} {a1 : Int32} {a2 : Int32} {a3 : Int32} {a4 : Int32} {s0 : Int32} (kt : s0 = 0 → wkB l G (d + 1) n_X8_dawns Q 61 [.ref 0, .int a1, .int a2, .int a3, .int a4] [] I L R) (kf : ¬ s0 = 0 → wkB l G (d + 1) n_X8_dawns Q 59 [.ref 0, .int a1, .int a2, .int a3, .int a4] [] I L R) : wkB l G (d + 1) n_X8_dawns Q 56 [.ref 0, .int a1, .int a2, .int a3, .int a4] [.int s0] I L R :=
  (fun lv hl => q_if_eq (off := 5) (tgt := 61) (zd (i := .ifCond .eq (5)) (n := 3) (by decide +kernel)) (by decide) (fun h => (kt h) lv hl) (fun h => (kf h) lv hl))
theorem w_X8_dawns_59 {Q : qQ} {I : qMI} {L : qML} {R : qMR} {a1 : Int32} {a2 : Int32} {a3 : Int32} {a4 : Int32} (hQ : Q (some (.int a3)) 336 I L R) : wkB l G (d + 1) n_X8_dawns Q 59 [.ref 0, .int a1, .int a2, .int a3, .int a4] [] I L R :=
  bb_iload_n (n := 3) (i := 3) (zd (i := .iload_n 3) (n := 1) (by decide +kernel)) rfl rfl <|
  (fun lv hl => q_iret (zd (i := .ireturn) (n := 1) (by decide +kernel)) rfl rfl (Nat.le_refl _) (Nat.le_refl _) hQ)
theorem w_X8_dawns_61 {Q : qQ} {I : qMI} {L : qML} {R : qMR} {a1 : Int32} {a2 : Int32} {a3 : Int32} {a4 : Int32} (k : wkB l G (d + 1) n_X8_dawns Q 19 [.ref 0, .int a1, .int a2, .int (a3 + 1), wkU] [] I L R) : wkB l G (d + 1) n_X8_dawns Q 61 [.ref 0, .int a1, .int a2, .int a3, .int a4] [] I L R :=
  bb_iinc (i := 3) (n := 1) (zd (i := .iinc 3 (1)) (n := 3) (by decide +kernel)) rfl rfl (by decide +kernel) (wkNl_i rfl) <|
  bb_lift (fun _ => q_goto (off := -45) (tgt := 19) (zd (i := .goto (-45)) (n := 3) (by decide +kernel)) (by decide)) (wkB_le (vs := [.ref 0, .int a1, .int a2, .int (a3 + 1), wkU]) (ws := [.ref 0, .int a1, .int a2, .int (a3 + 1), .int a4]) ⟨Or.inr rfl, Or.inr rfl, Or.inr rfl, Or.inr rfl, Or.inl rfl, trivial⟩ (k))
theorem w_X8_dawns_67 {Q : qQ} {I : qMI} {L : qML} {R : qMR} {a1 : Int32} {a2 : Int32} {a3 : Int32} (hQ : Q (some (.int (-2))) 336 I L R) : wkB l G (d + 1) n_X8_dawns Q 67 [.ref 0, .int a1, .int a2, .int a3, wkU] [] I L R :=
  bb_lift (fun _ => q_bipush (n := -2) (zd (i := .bipush (-2)) (n := 2) (by decide +kernel)) rfl) <|
  (fun lv hl => q_iret (zd (i := .ireturn) (n := 1) (by decide +kernel)) rfl rfl (Nat.le_refl _) (Nat.le_refl _) hQ)
theorem wq_X8_longFrom_0 {Q : qQ} {I : qMI} {L : qML} {R : qMR} {a1 : Int32} {a2 : Int32} {a3 : Int32} {P : Int32 → qMI → qML → qMR → Prop} (hc : wkCi l G d n_X8_isX [.int a1] I L R P) (kk : ∀ y I' L' R', P y I' L' R' → wkB l G (d + 1) n_X8_longFrom Q 4 [.ref 0, .int a1, .int a2, .int a3, wkU, wkU] [.int y] I' L' R') : wkB l G (d + 1) n_X8_longFrom Q 0 [.ref 0, .int a1, .int a2, .int a3, wkU, wkU] [] I L R :=
  bb_iload_n (n := 1) (i := 1) (zd (i := .iload_n 1) (n := 1) (by decide +kernel)) rfl rfl <|
  bb_callS (idx := 175) (N := n_X8_isX) (As := [.int a1]) (st := []) (zd (i := .invokestatic 175) (n := 3) (by decide +kernel)) to_X8_isX g805 g806 (Nat.le_of_ble_eq_true rfl) rfl rfl hc (fun r I' L' R' hq => by obtain ⟨y, rfl, hp⟩ := hq; exact kk y I' L' R' hp)
theorem wq_X8_longFrom_4 {Q : qQ} {I : qMI} {L : qML} {R : qMR} {a1 : Int32} {a2 : Int32} {a3 : Int32} {s0 : Int32} (kt : s0 = 0 → wkB l G (d + 1) n_X8_longFrom Q 26 [.ref 0, .int a1, .int a2, .int a3, wkU, wkU] [] I L R) (kf : ¬ s0 = 0 → wkB l G (d + 1) n_X8_longFrom Q 7 [.ref 0, .int a1, .int a2, .int a3, wkU, wkU] [] I L R) : wkB l G (d + 1) n_X8_longFrom Q 4 [.ref 0, .int a1, .int a2, .int a3, wkU, wkU] [.int s0] I L R :=
  (fun lv hl => q_if_eq (off := 22) (tgt := 26) (zd (i := .ifCond .eq (22)) (n := 3) (by decide +kernel)) (by decide) (fun h => (kt h) lv hl) (fun h => (kf h) lv hl))
theorem wq_X8_longFrom_7 {Q : qQ} {I : qMI} {L : qML} {R : qMR} {a1 : Int32} {a2 : Int32} {a3 : Int32} {P : Int32 → qMI → qML → qMR → Prop} (hc : wkCi l G d n_X8_isThing [.ref 0, .int a2] I L R P) (kk : ∀ y I' L' R', P y I' L' R' → wkB l G (d + 1) n_X8_longFrom Q 12 [.ref 0, .int a1, .int a2, .int a3, wkU, wkU] [.int y] I' L' R') : wkB l G (d + 1) n_X8_longFrom Q 7 [.ref 0, .int a1, .int a2, .int a3, wkU, wkU] [] I L R :=
  bb_aload_n (n := 0) (i := 0) (zd (i := .aload_n 0) (n := 1) (by decide +kernel)) rfl rfl <|
  bb_iload_n (n := 2) (i := 2) (zd (i := .iload_n 2) (n := 1) (by decide +kernel)) rfl rfl <|
  bb_callV (idx := 115) (k := 0) (ci := 8) (N := n_X8_isThing) (As := [.int a2]) (st := []) (zd (i := .invokevirtual 115) (n := 3) (by decide +kernel)) to_X8_isThing g708 g710 g17 (Nat.le_of_ble_eq_true rfl) (by decide +kernel) (by decide +kernel) (by decide +kernel) rfl rfl rfl hc (fun r I' L' R' hq => by obtain ⟨y, rfl, hp⟩ := hq; exact kk y I' L' R' hp)
theorem wq_X8_longFrom_12 {Q : qQ} {I : qMI} {L : qML} {R : qMR} {a1 : Int32} {a2 : Int32} {a3 : Int32} {s0 : Int32} (kt : s0 = 0 → wkB l G (d + 1) n_X8_longFrom Q 26 [.ref 0, .int a1, .int a2, .int a3, wkU, wkU] [] I L R) (kf : ¬ s0 = 0 → wkB l G (d + 1) n_X8_longFrom Q 15 [.ref 0, .int a1, .int a2, .int a3, wkU, wkU] [] I L R) : wkB l G (d + 1) n_X8_longFrom Q 12 [.ref 0, .int a1, .int a2, .int a3, wkU, wkU] [.int s0] I L R :=
  (fun lv hl => q_if_eq (off := 14) (tgt := 26) (zd (i := .ifCond .eq (14)) (n := 3) (by decide +kernel)) (by decide) (fun h => (kt h) lv hl) (fun h => (kf h) lv hl))
theorem wq_X8_longFrom_15 {Q : qQ} {I : qMI} {L : qML} {R : qMR} {a1 : Int32} {a2 : Int32} {a3 : Int32} (kt : a3 < 1 → wkB l G (d + 1) n_X8_longFrom Q 26 [.ref 0, .int a1, .int a2, .int a3, wkU, wkU] [] I L R) (kf : ¬ a3 < 1 → wkB l G (d + 1) n_X8_longFrom Q 20 [.ref 0, .int a1, .int a2, .int a3, wkU, wkU] [] I L R) : wkB l G (d + 1) n_X8_longFrom Q 15 [.ref 0, .int a1, .int a2, .int a3, wkU, wkU] [] I L R :=
  bb_iload_n (n := 3) (i := 3) (zd (i := .iload_n 3) (n := 1) (by decide +kernel)) rfl rfl <|
  bb_lift (fun _ => q_iconst (n := 1) (zd (i := .iconst (1)) (n := 1) (by decide +kernel)) rfl) <|
  (fun lv hl => q_icmp_lt (off := 9) (tgt := 26) (zd (i := .if_icmp .lt (9)) (n := 3) (by decide +kernel)) (by decide) (fun h => (kt h) lv hl) (fun h => (kf h) lv hl))
theorem wq_X8_longFrom_20 {Q : qQ} {I : qMI} {L : qML} {R : qMR} {a1 : Int32} {a2 : Int32} {a3 : Int32} (kt : a3 ≤ 48 → wkB l G (d + 1) n_X8_longFrom Q 28 [.ref 0, .int a1, .int a2, .int a3, wkU, wkU] [] I L R) (kf : ¬ a3 ≤ 48 → wkB l G (d + 1) n_X8_longFrom Q 26 [.ref 0, .int a1, .int a2, .int a3, wkU, wkU] [] I L R) : wkB l G (d + 1) n_X8_longFrom Q 20 [.ref 0, .int a1, .int a2, .int a3, wkU, wkU] [] I L R :=
  bb_iload_n (n := 3) (i := 3) (zd (i := .iload_n 3) (n := 1) (by decide +kernel)) rfl rfl <|
  bb_lift (fun _ => q_bipush (n := 48) (zd (i := .bipush (48)) (n := 2) (by decide +kernel)) rfl) <|
  (fun lv hl => q_icmp_le (off := 5) (tgt := 28) (zd (i := .if_icmp .le (5)) (n := 3) (by decide +kernel)) (by decide) (fun h => (kt h) lv hl) (fun h => (kf h) lv hl))
theorem wq_X8_longFrom_26 {Q : qQ} {I : qMI} {L : qML} {R : qMR} {a1 : Int32} {a2 : Int32} {a3 : Int32} (hQ : Q (some (.int (-1))) 336 I L R) : wkB l G (d + 1) n_X8_longFrom Q 26 [.ref 0, .int a1, .int a2, .int a3, wkU, wkU] [] I L R :=
  bb_lift (fun _ => q_iconst (n := -1) (zd (i := .iconst (-1)) (n := 1) (by decide +kernel)) rfl) <|
  (fun lv hl => q_iret (zd (i := .ireturn) (n := 1) (by decide +kernel)) rfl rfl (Nat.le_refl _) (Nat.le_refl _) hQ)
theorem wq_X8_longFrom_28 {Q : qQ} {I : qMI} {L : qML} {R : qMR} {a1 : Int32} {a2 : Int32} {a3 : Int32} (h1 : R 0 2 = some 21) (k : wkB l G (d + 1) n_X8_longFrom Q 40 [.ref 0, .int a1, .int a2, .int a3, .int 0, .int (I 21 0)] [] I L R) : wkB l G (d + 1) n_X8_longFrom Q 28 [.ref 0, .int a1, .int a2, .int a3, wkU, wkU] [] I L R :=
  bb_lift (fun _ => q_iconst (n := 0) (zd (i := .iconst (0)) (n := 1) (by decide +kernel)) rfl) <|
  bb_istore (i := 4) (zd (i := .istore 4) (n := 2) (by decide +kernel)) (by decide +kernel) (wkNl_i rfl) <|
  bb_aload_n (n := 0) (i := 0) (zd (i := .aload_n 0) (n := 1) (by decide +kernel)) rfl rfl <|
  bb_getr (k := 0) (ci := 8) (j := 2) (idx := 26) (a := 21) (zd (i := .getfield 26) (n := 3) (by decide +kernel)) (by decide +kernel) (by decide +kernel) (by decide +kernel) (by decide +kernel) rfl g454 h1 <|
  bb_geti (k := 21) (ci := 4) (j := 0) (idx := 140) (zd (i := .getfield 140) (n := 3) (by decide +kernel)) (by decide +kernel) (by decide +kernel) (by decide +kernel) (by decide +kernel) rfl g368 <|
  bb_istore (i := 5) (zd (i := .istore 5) (n := 2) (by decide +kernel)) (by decide +kernel) (wkNl_i rfl) <|
  k
theorem wq_X8_longFrom_40 {Q : qQ} {I : qMI} {L : qML} {R : qMR} {a1 : Int32} {a2 : Int32} {a3 : Int32} {a4 : Int32} {a5 : Int32} (h1 : R 0 2 = some 21) (kt : ((I 21 0) + a3) ≤ a5 → wkB l G (d + 1) n_X8_longFrom Q 86 [.ref 0, .int a1, .int a2, .int a3, .int a4, .int a5] [] I L R) (kf : ¬ ((I 21 0) + a3) ≤ a5 → wkB l G (d + 1) n_X8_longFrom Q 54 [.ref 0, .int a1, .int a2, .int a3, .int a4, .int a5] [] I L R) : wkB l G (d + 1) n_X8_longFrom Q 40 [.ref 0, .int a1, .int a2, .int a3, .int a4, .int a5] [] I L R :=
  bb_iload (i := 5) (zd (i := .iload 5) (n := 2) (by decide +kernel)) rfl <|
  bb_aload_n (n := 0) (i := 0) (zd (i := .aload_n 0) (n := 1) (by decide +kernel)) rfl rfl <|
  bb_getr (k := 0) (ci := 8) (j := 2) (idx := 26) (a := 21) (zd (i := .getfield 26) (n := 3) (by decide +kernel)) (by decide +kernel) (by decide +kernel) (by decide +kernel) (by decide +kernel) rfl g454 h1 <|
  bb_geti (k := 21) (ci := 4) (j := 0) (idx := 140) (zd (i := .getfield 140) (n := 3) (by decide +kernel)) (by decide +kernel) (by decide +kernel) (by decide +kernel) (by decide +kernel) rfl g368 <|
  bb_iload_n (n := 3) (i := 3) (zd (i := .iload_n 3) (n := 1) (by decide +kernel)) rfl rfl <|
  bb_lift (fun _ => q_iadd (zd (i := .iadd) (n := 1) (by decide +kernel))) <|
  (fun lv hl => q_icmp_ge (off := 35) (tgt := 86) (zd (i := .if_icmp .ge (35)) (n := 3) (by decide +kernel)) (by decide) (fun h => (kt h) lv hl) (fun h => (kf h) lv hl))
theorem wq_X8_longFrom_54 {Q : qQ} {I : qMI} {L : qML} {R : qMR} {o : Nat} (ho : o = 9 ∨ o = 259) {a1 : Int32} {a2 : Int32} {a3 : Int32} {a4 : Int32} {a5 : Int32} (h1 : R 0 12 = some o) (h2 : R 0 12 = some o) {P : Int32 → qMI → qML → qMR → Prop} (hc : wkCi l G d n_X0_heat [.ref o, .int a5] I L R P) (kk : ∀ y I' L' R', P y I' L' R' → wkB l G (d + 1) n_X8_longFrom Q 71 [.ref 0, .int a1, .int a2, .int a3, .int a4, .int a5] [.int y, .int a5, .int a2, .int a1, .ref o] I' L' R') : wkB l G (d + 1) n_X8_longFrom Q 54 [.ref 0, .int a1, .int a2, .int a3, .int a4, .int a5] [] I L R :=
  bb_aload_n (n := 0) (i := 0) (zd (i := .aload_n 0) (n := 1) (by decide +kernel)) rfl rfl <|
  bb_getr (k := 0) (ci := 8) (j := 12) (idx := 71) (a := o) (zd (i := .getfield 71) (n := 3) (by decide +kernel)) (by decide +kernel) (by decide +kernel) (by decide +kernel) (by decide +kernel) rfl g464 h1 <|
  bb_iload_n (n := 1) (i := 1) (zd (i := .iload_n 1) (n := 1) (by decide +kernel)) rfl rfl <|
  bb_iload_n (n := 2) (i := 2) (zd (i := .iload_n 2) (n := 1) (by decide +kernel)) rfl rfl <|
  bb_iload (i := 5) (zd (i := .iload 5) (n := 2) (by decide +kernel)) rfl <|
  bb_aload_n (n := 0) (i := 0) (zd (i := .aload_n 0) (n := 1) (by decide +kernel)) rfl rfl <|
  bb_getr (k := 0) (ci := 8) (j := 12) (idx := 71) (a := o) (zd (i := .getfield 71) (n := 3) (by decide +kernel)) (by decide +kernel) (by decide +kernel) (by decide +kernel) (by decide +kernel) rfl g464 h2 <|
  bb_iload (i := 5) (zd (i := .iload 5) (n := 2) (by decide +kernel)) rfl <|
  bb_callV (idx := 143) (k := o) (ci := 0) (N := n_X0_heat) (As := [.int a5]) (st := [.int a5, .int a2, .int a1, .ref o]) (zd (i := .invokevirtual 143) (n := 3) (by decide +kernel)) to_X0_heat g716 g717 g718 (Nat.le_of_ble_eq_true rfl) (by rcases ho with rfl | rfl <;> decide +kernel) (by rcases ho with rfl | rfl <;> decide +kernel) (by decide +kernel) rfl rfl rfl hc (fun r I' L' R' hq => by obtain ⟨y, rfl, hp⟩ := hq; exact kk y I' L' R' hp)
theorem wq_X8_longFrom_71 {Q : qQ} {I : qMI} {L : qML} {R : qMR} {o : Nat} (ho : o = 9 ∨ o = 259) {a1 : Int32} {a2 : Int32} {a3 : Int32} {a4 : Int32} {a5 : Int32} {s1 : Int32} {s2 : Int32} {s3 : Int32} {s4 : Int32} {P : Int32 → qMI → qML → qMR → Prop} (hc : wkCi l G d n_X0_isSeenFrom [.ref o, .int s1, .int s2, .int s3, .int s4] I L R P) (kk : ∀ y I' L' R', P y I' L' R' → wkB l G (d + 1) n_X8_longFrom Q 74 [.ref 0, .int a1, .int a2, .int a3, .int a4, .int a5] [.int y] I' L' R') : wkB l G (d + 1) n_X8_longFrom Q 71 [.ref 0, .int a1, .int a2, .int a3, .int a4, .int a5] [.int s4, .int s3, .int s2, .int s1, .ref o] I L R :=
  bb_callV (idx := 239) (k := o) (ci := 0) (N := n_X0_isSeenFrom) (As := [.int s1, .int s2, .int s3, .int s4]) (st := []) (zd (i := .invokevirtual 239) (n := 3) (by decide +kernel)) to_X0_isSeenFrom g745 g746 g747 (Nat.le_of_ble_eq_true rfl) (by rcases ho with rfl | rfl <;> decide +kernel) (by rcases ho with rfl | rfl <;> decide +kernel) (by decide +kernel) rfl rfl rfl hc (fun r I' L' R' hq => by obtain ⟨y, rfl, hp⟩ := hq; exact kk y I' L' R' hp)
theorem wq_X8_longFrom_74 {Q : qQ} {I : qMI} {L : qML} {R : qMR} {a1 : Int32} {a2 : Int32} {a3 : Int32} {a4 : Int32} {a5 : Int32} {s0 : Int32} (kt : s0 = 0 → wkB l G (d + 1) n_X8_longFrom Q 80 [.ref 0, .int a1, .int a2, .int a3, .int a4, .int a5] [] I L R) (kf : ¬ s0 = 0 → wkB l G (d + 1) n_X8_longFrom Q 77 [.ref 0, .int a1, .int a2, .int a3, .int a4, .int a5] [] I L R) : wkB l G (d + 1) n_X8_longFrom Q 74 [.ref 0, .int a1, .int a2, .int a3, .int a4, .int a5] [.int s0] I L R :=
  (fun lv hl => q_if_eq (off := 6) (tgt := 80) (zd (i := .ifCond .eq (6)) (n := 3) (by decide +kernel)) (by decide) (fun h => (kt h) lv hl) (fun h => (kf h) lv hl))
theorem wq_X8_longFrom_77 {Q : qQ} {I : qMI} {L : qML} {R : qMR} {a1 : Int32} {a2 : Int32} {a3 : Int32} {a4 : Int32} {a5 : Int32} (k : wkB l G (d + 1) n_X8_longFrom Q 80 [.ref 0, .int a1, .int a2, .int a3, .int (a4 + 1), .int a5] [] I L R) : wkB l G (d + 1) n_X8_longFrom Q 77 [.ref 0, .int a1, .int a2, .int a3, .int a4, .int a5] [] I L R :=
  bb_iinc (i := 4) (n := 1) (zd (i := .iinc 4 (1)) (n := 3) (by decide +kernel)) rfl rfl (by decide +kernel) (wkNl_i rfl) <|
  k
theorem wq_X8_longFrom_80 {Q : qQ} {I : qMI} {L : qML} {R : qMR} {a1 : Int32} {a2 : Int32} {a3 : Int32} {a4 : Int32} {a5 : Int32} (k : wkB l G (d + 1) n_X8_longFrom Q 40 [.ref 0, .int a1, .int a2, .int a3, .int a4, .int (a5 + 1)] [] I L R) : wkB l G (d + 1) n_X8_longFrom Q 80 [.ref 0, .int a1, .int a2, .int a3, .int a4, .int a5] [] I L R :=
  bb_iinc (i := 5) (n := 1) (zd (i := .iinc 5 (1)) (n := 3) (by decide +kernel)) rfl rfl (by decide +kernel) (wkNl_i rfl) <|
  bb_lift (fun _ => q_goto (off := -43) (tgt := 40) (zd (i := .goto (-43)) (n := 3) (by decide +kernel)) (by decide)) k
theorem wq_X8_longFrom_86 {Q : qQ} {I : qMI} {L : qML} {R : qMR} {a1 : Int32} {a2 : Int32} {a3 : Int32} {a4 : Int32} {a5 : Int32} (hQ : Q (some (.int a4)) 336 I L R) : wkB l G (d + 1) n_X8_longFrom Q 86 [.ref 0, .int a1, .int a2, .int a3, .int a4, .int a5] [] I L R :=
  bb_iload (i := 4) (zd (i := .iload 4) (n := 2) (by decide +kernel)) rfl <|
  (fun lv hl => q_iret (zd (i := .ireturn) (n := 1) (by decide +kernel)) rfl rfl (Nat.le_refl _) (Nat.le_refl _) hQ)
theorem w_X8_best_0 {Q : qQ} {I : qMI} {L : qML} {R : qMR} {a1 : Int32} {a2 : Int32} {a3 : Int32} {P : Int32 → qMI → qML → qMR → Prop} (hc : wkCi l G d n_X8_isThing [.ref 0, .int a1] I L R P) (kk : ∀ y I' L' R', P y I' L' R' → wkB l G (d + 1) n_X8_best Q 5 [.ref 0, .int a1, .int a2, .int a3, wkU, wkU] [.int y] I' L' R') : wkB l G (d + 1) n_X8_best Q 0 [.ref 0, .int a1, .int a2, .int a3, wkU, wkU] [] I L R :=
  bb_aload_n (n := 0) (i := 0) (zd (i := .aload_n 0) (n := 1) (by decide +kernel)) rfl rfl <|
  bb_iload_n (n := 1) (i := 1) (zd (i := .iload_n 1) (n := 1) (by decide +kernel)) rfl rfl <|
  bb_callV (idx := 115) (k := 0) (ci := 8) (N := n_X8_isThing) (As := [.int a1]) (st := []) (zd (i := .invokevirtual 115) (n := 3) (by decide +kernel)) to_X8_isThing g708 g710 g17 (Nat.le_of_ble_eq_true rfl) (by decide +kernel) (by decide +kernel) (by decide +kernel) rfl rfl rfl hc (fun r I' L' R' hq => by obtain ⟨y, rfl, hp⟩ := hq; exact kk y I' L' R' hp)
theorem w_X8_best_5 {Q : qQ} {I : qMI} {L : qML} {R : qMR} {a1 : Int32} {a2 : Int32} {a3 : Int32} {s0 : Int32} (kt : s0 = 0 → wkB l G (d + 1) n_X8_best Q 28 [.ref 0, .int a1, .int a2, .int a3, wkU, wkU] [] I L R) (kf : ¬ s0 = 0 → wkB l G (d + 1) n_X8_best Q 8 [.ref 0, .int a1, .int a2, .int a3, wkU, wkU] [] I L R) : wkB l G (d + 1) n_X8_best Q 5 [.ref 0, .int a1, .int a2, .int a3, wkU, wkU] [.int s0] I L R :=
  (fun lv hl => q_if_eq (off := 23) (tgt := 28) (zd (i := .ifCond .eq (23)) (n := 3) (by decide +kernel)) (by decide) (fun h => (kt h) lv hl) (fun h => (kf h) lv hl))
theorem w_X8_best_8 {Q : qQ} {I : qMI} {L : qML} {R : qMR} {a1 : Int32} {a2 : Int32} {a3 : Int32} (kt : a2 < 1 → wkB l G (d + 1) n_X8_best Q 28 [.ref 0, .int a1, .int a2, .int a3, wkU, wkU] [] I L R) (kf : ¬ a2 < 1 → wkB l G (d + 1) n_X8_best Q 13 [.ref 0, .int a1, .int a2, .int a3, wkU, wkU] [] I L R) : wkB l G (d + 1) n_X8_best Q 8 [.ref 0, .int a1, .int a2, .int a3, wkU, wkU] [] I L R :=
  bb_iload_n (n := 2) (i := 2) (zd (i := .iload_n 2) (n := 1) (by decide +kernel)) rfl rfl <|
  bb_lift (fun _ => q_iconst (n := 1) (zd (i := .iconst (1)) (n := 1) (by decide +kernel)) rfl) <|
  (fun lv hl => q_icmp_lt (off := 18) (tgt := 28) (zd (i := .if_icmp .lt (18)) (n := 3) (by decide +kernel)) (by decide) (fun h => (kt h) lv hl) (fun h => (kf h) lv hl))
theorem w_X8_best_13 {Q : qQ} {I : qMI} {L : qML} {R : qMR} {a1 : Int32} {a2 : Int32} {a3 : Int32} (kt : 48 < a2 → wkB l G (d + 1) n_X8_best Q 28 [.ref 0, .int a1, .int a2, .int a3, wkU, wkU] [] I L R) (kf : ¬ 48 < a2 → wkB l G (d + 1) n_X8_best Q 19 [.ref 0, .int a1, .int a2, .int a3, wkU, wkU] [] I L R) : wkB l G (d + 1) n_X8_best Q 13 [.ref 0, .int a1, .int a2, .int a3, wkU, wkU] [] I L R :=
  bb_iload_n (n := 2) (i := 2) (zd (i := .iload_n 2) (n := 1) (by decide +kernel)) rfl rfl <|
  bb_lift (fun _ => q_bipush (n := 48) (zd (i := .bipush (48)) (n := 2) (by decide +kernel)) rfl) <|
  (fun lv hl => q_icmp_gt (off := 12) (tgt := 28) (zd (i := .if_icmp .gt (12)) (n := 3) (by decide +kernel)) (by decide) (fun h => (kt h) lv hl) (fun h => (kf h) lv hl))
theorem w_X8_best_19 {Q : qQ} {I : qMI} {L : qML} {R : qMR} {a1 : Int32} {a2 : Int32} {a3 : Int32} (kt : a3 < 0 → wkB l G (d + 1) n_X8_best Q 28 [.ref 0, .int a1, .int a2, .int a3, wkU, wkU] [] I L R) (kf : ¬ a3 < 0 → wkB l G (d + 1) n_X8_best Q 23 [.ref 0, .int a1, .int a2, .int a3, wkU, wkU] [] I L R) : wkB l G (d + 1) n_X8_best Q 19 [.ref 0, .int a1, .int a2, .int a3, wkU, wkU] [] I L R :=
  bb_iload_n (n := 3) (i := 3) (zd (i := .iload_n 3) (n := 1) (by decide +kernel)) rfl rfl <|
  (fun lv hl => q_if_lt (off := 8) (tgt := 28) (zd (i := .ifCond .lt (8)) (n := 3) (by decide +kernel)) (by decide) (fun h => (kt h) lv hl) (fun h => (kf h) lv hl))
theorem w_X8_best_23 {Q : qQ} {I : qMI} {L : qML} {R : qMR} {a1 : Int32} {a2 : Int32} {a3 : Int32} (kt : a3 ≤ 1 → wkB l G (d + 1) n_X8_best Q 30 [.ref 0, .int a1, .int a2, .int a3, wkU, wkU] [] I L R) (kf : ¬ a3 ≤ 1 → wkB l G (d + 1) n_X8_best Q 28 [.ref 0, .int a1, .int a2, .int a3, wkU, wkU] [] I L R) : wkB l G (d + 1) n_X8_best Q 23 [.ref 0, .int a1, .int a2, .int a3, wkU, wkU] [] I L R :=
  bb_iload_n (n := 3) (i := 3) (zd (i := .iload_n 3) (n := 1) (by decide +kernel)) rfl rfl <|
  bb_lift (fun _ => q_iconst (n := 1) (zd (i := .iconst (1)) (n := 1) (by decide +kernel)) rfl) <|
  (fun lv hl => q_icmp_le (off := 5) (tgt := 30) (zd (i := .if_icmp .le (5)) (n := 3) (by decide +kernel)) (by decide) (fun h => (kt h) lv hl) (fun h => (kf h) lv hl))
theorem w_X8_best_28 {Q : qQ} {I : qMI} {L : qML} {R : qMR} {a1 : Int32} {a2 : Int32} {a3 : Int32} (hQ : Q (some (.int (-1))) 336 I L R) : wkB l G (d + 1) n_X8_best Q 28 [.ref 0, .int a1, .int a2, .int a3, wkU, wkU] [] I L R :=
  bb_lift (fun _ => q_iconst (n := -1) (zd (i := .iconst (-1)) (n := 1) (by decide +kernel)) rfl) <|
  (fun lv hl => q_iret (zd (i := .ireturn) (n := 1) (by decide +kernel)) rfl rfl (Nat.le_refl _) (Nat.le_refl _) hQ)
theorem w_X8_best_30 {Q : qQ} {I : qMI} {L : qML} {R : qMR} {a1 : Int32} {a2 : Int32} {a3 : Int32} {P : qMI → qML → qMR → Prop} (hc : wkCv l G d n_X8_tallySeenHours [.ref 0, .int a1, .int a2] I L R P) (kk : ∀ I' L' R', P I' L' R' → wkB l G (d + 1) n_X8_best Q 36 [.ref 0, .int a1, .int a2, .int a3, wkU, wkU] [] I' L' R') : wkB l G (d + 1) n_X8_best Q 30 [.ref 0, .int a1, .int a2, .int a3, wkU, wkU] [] I L R :=
  bb_aload_n (n := 0) (i := 0) (zd (i := .aload_n 0) (n := 1) (by decide +kernel)) rfl rfl <|
  bb_iload_n (n := 1) (i := 1) (zd (i := .iload_n 1) (n := 1) (by decide +kernel)) rfl rfl <|
  bb_iload_n (n := 2) (i := 2) (zd (i := .iload_n 2) (n := 1) (by decide +kernel)) rfl rfl <|
  bb_callV (idx := 243) (k := 0) (ci := 8) (N := n_X8_tallySeenHours) (As := [.int a1, .int a2]) (st := []) (zd (i := .invokevirtual 243) (n := 3) (by decide +kernel)) to_X8_tallySeenHours g931 g933 g31 (Nat.le_of_ble_eq_true rfl) (by decide +kernel) (by decide +kernel) (by decide +kernel) rfl rfl rfl hc (fun r I' L' R' hq => by obtain ⟨rfl, hp⟩ := hq; exact kk I' L' R' hp)
theorem w_X8_best_36 {Q : qQ} {I : qMI} {L : qML} {R : qMR} {a1 : Int32} {a2 : Int32} {a3 : Int32} (k : wkB l G (d + 1) n_X8_best Q 42 [.ref 0, .int a1, .int a2, .int a3, .int 0, .int 1] [] I L R) : wkB l G (d + 1) n_X8_best Q 36 [.ref 0, .int a1, .int a2, .int a3, wkU, wkU] [] I L R :=
  bb_lift (fun _ => q_iconst (n := 0) (zd (i := .iconst (0)) (n := 1) (by decide +kernel)) rfl) <|
  bb_istore (i := 4) (zd (i := .istore 4) (n := 2) (by decide +kernel)) (by decide +kernel) (wkNl_i rfl) <|
  bb_lift (fun _ => q_iconst (n := 1) (zd (i := .iconst (1)) (n := 1) (by decide +kernel)) rfl) <|
  bb_istore (i := 5) (zd (i := .istore 5) (n := 2) (by decide +kernel)) (by decide +kernel) (wkNl_i rfl) <|
  k
theorem w_X8_best_42 {Q : qQ} {I : qMI} {L : qML} {R : qMR} {a1 : Int32} {a2 : Int32} {a3 : Int32} {a4 : Int32} {a5 : Int32} (kt : 20 ≤ a5 → wkB l G (d + 1) n_X8_best Q 76 [.ref 0, .int a1, .int a2, .int a3, .int a4, .int a5] [] I L R) (kf : ¬ 20 ≤ a5 → wkB l G (d + 1) n_X8_best Q 49 [.ref 0, .int a1, .int a2, .int a3, .int a4, .int a5] [] I L R) : wkB l G (d + 1) n_X8_best Q 42 [.ref 0, .int a1, .int a2, .int a3, .int a4, .int a5] [] I L R :=
  bb_iload (i := 5) (zd (i := .iload 5) (n := 2) (by decide +kernel)) rfl <|
  bb_lift (fun _ => q_bipush (n := 20) (zd (i := .bipush (20)) (n := 2) (by decide +kernel)) rfl) <|
  (fun lv hl => q_icmp_ge (off := 30) (tgt := 76) (zd (i := .if_icmp .ge (30)) (n := 3) (by decide +kernel)) (by decide) (fun h => (kt h) lv hl) (fun h => (kf h) lv hl))
theorem w_X8_best_49 {Q : qQ} {I : qMI} {L : qML} {R : qMR} {a1 : Int32} {a2 : Int32} {a3 : Int32} {a4 : Int32} {a5 : Int32} (h1 : R 0 8 = some 255) (h2 : vp_in a5 20) (h3 : R 0 8 = some 255) (h4 : vp_in a4 20) (kt : (I 255 a5.toNatClampNeg) ≤ (I 255 a4.toNatClampNeg) → wkB l G (d + 1) n_X8_best Q 70 [.ref 0, .int a1, .int a2, .int a3, .int a4, .int a5] [] I L R) (kf : ¬ (I 255 a5.toNatClampNeg) ≤ (I 255 a4.toNatClampNeg) → wkB l G (d + 1) n_X8_best Q 66 [.ref 0, .int a1, .int a2, .int a3, .int a4, .int a5] [] I L R) : wkB l G (d + 1) n_X8_best Q 49 [.ref 0, .int a1, .int a2, .int a3, .int a4, .int a5] [] I L R :=
  bb_aload_n (n := 0) (i := 0) (zd (i := .aload_n 0) (n := 1) (by decide +kernel)) rfl rfl <|
  bb_getr (k := 0) (ci := 8) (j := 8) (idx := 55) (a := 255) (zd (i := .getfield 55) (n := 3) (by decide +kernel)) (by decide +kernel) (by decide +kernel) (by decide +kernel) (by decide +kernel) rfl g460 h1 <|
  bb_iload (i := 5) (zd (i := .iload 5) (n := 2) (by decide +kernel)) rfl <|
  bb_lift (fun _ => q_iald (k := 255) (zd (i := .iaload) (n := 1) (by decide +kernel)) (by decide +kernel) (by decide +kernel) h2) <|
  bb_aload_n (n := 0) (i := 0) (zd (i := .aload_n 0) (n := 1) (by decide +kernel)) rfl rfl <|
  bb_getr (k := 0) (ci := 8) (j := 8) (idx := 55) (a := 255) (zd (i := .getfield 55) (n := 3) (by decide +kernel)) (by decide +kernel) (by decide +kernel) (by decide +kernel) (by decide +kernel) rfl g460 h3 <|
  bb_iload (i := 4) (zd (i := .iload 4) (n := 2) (by decide +kernel)) rfl <|
  bb_lift (fun _ => q_iald (k := 255) (zd (i := .iaload) (n := 1) (by decide +kernel)) (by decide +kernel) (by decide +kernel) h4) <|
  (fun lv hl => q_icmp_le (off := 7) (tgt := 70) (zd (i := .if_icmp .le (7)) (n := 3) (by decide +kernel)) (by decide) (fun h => (kt h) lv hl) (fun h => (kf h) lv hl))
theorem w_X8_best_66 {Q : qQ} {I : qMI} {L : qML} {R : qMR} {a1 : Int32} {a2 : Int32} {a3 : Int32} {a4 : Int32} {a5 : Int32} (k : wkB l G (d + 1) n_X8_best Q 70 [.ref 0, .int a1, .int a2, .int a3, .int a5, .int a5] [] I L R) : wkB l G (d + 1) n_X8_best Q 66 [.ref 0, .int a1, .int a2, .int a3, .int a4, .int a5] [] I L R :=
  bb_iload (i := 5) (zd (i := .iload 5) (n := 2) (by decide +kernel)) rfl <|
  bb_istore (i := 4) (zd (i := .istore 4) (n := 2) (by decide +kernel)) (by decide +kernel) (wkNl_i rfl) <|
  k
theorem w_X8_best_70 {Q : qQ} {I : qMI} {L : qML} {R : qMR} {a1 : Int32} {a2 : Int32} {a3 : Int32} {a4 : Int32} {a5 : Int32} (k : wkB l G (d + 1) n_X8_best Q 42 [.ref 0, .int a1, .int a2, .int a3, .int a4, .int (a5 + 1)] [] I L R) : wkB l G (d + 1) n_X8_best Q 70 [.ref 0, .int a1, .int a2, .int a3, .int a4, .int a5] [] I L R :=
  bb_iinc (i := 5) (n := 1) (zd (i := .iinc 5 (1)) (n := 3) (by decide +kernel)) rfl rfl (by decide +kernel) (wkNl_i rfl) <|
  bb_lift (fun _ => q_goto (off := -31) (tgt := 42) (zd (i := .goto (-31)) (n := 3) (by decide +kernel)) (by decide)) k
theorem w_X8_best_76 {Q : qQ} {I : qMI} {L : qML} {R : qMR} {a1 : Int32} {a2 : Int32} {a3 : Int32} {a4 : Int32} {a5 : Int32} (kt : ¬ a3 = 0 → wkB l G (d + 1) n_X8_best Q 85 [.ref 0, .int a1, .int a2, .int a3, .int a4, .int a5] [] I L R) (kf : a3 = 0 → wkB l G (d + 1) n_X8_best Q 80 [.ref 0, .int a1, .int a2, .int a3, .int a4, .int a5] [] I L R) : wkB l G (d + 1) n_X8_best Q 76 [.ref 0, .int a1, .int a2, .int a3, .int a4, .int a5] [] I L R :=
  bb_iload_n (n := 3) (i := 3) (zd (i := .iload_n 3) (n := 1) (by decide +kernel)) rfl rfl <|
  (fun lv hl => q_if_ne (off := 8) (tgt := 85) (zd (i := .ifCond .ne (8)) (n := 3) (by decide +kernel)) (by decide) (fun h => (kt h) lv hl) (fun h => (kf h) lv hl))
theorem w_X8_best_80 {Q : qQ} {I : qMI} {L : qML} {R : qMR} {a1 : Int32} {a2 : Int32} {a3 : Int32} {a4 : Int32} {a5 : Int32} (k : wkB l G (d + 1) n_X8_best Q 92 [.ref 0, .int a1, .int a2, .int a3, .int a4, .int a5] [.int a4] I L R) : wkB l G (d + 1) n_X8_best Q 80 [.ref 0, .int a1, .int a2, .int a3, .int a4, .int a5] [] I L R :=
  bb_iload (i := 4) (zd (i := .iload 4) (n := 2) (by decide +kernel)) rfl <|
  bb_lift (fun _ => q_goto (off := 10) (tgt := 92) (zd (i := .goto (10)) (n := 3) (by decide +kernel)) (by decide)) k
theorem w_X8_best_85 {Q : qQ} {I : qMI} {L : qML} {R : qMR} {a1 : Int32} {a2 : Int32} {a3 : Int32} {a4 : Int32} {a5 : Int32} (h1 : R 0 8 = some 255) (h2 : vp_in a4 20) (k : wkB l G (d + 1) n_X8_best Q 92 [.ref 0, .int a1, .int a2, .int a3, .int a4, .int a5] [.int (I 255 a4.toNatClampNeg)] I L R) : wkB l G (d + 1) n_X8_best Q 85 [.ref 0, .int a1, .int a2, .int a3, .int a4, .int a5] [] I L R :=
  bb_aload_n (n := 0) (i := 0) (zd (i := .aload_n 0) (n := 1) (by decide +kernel)) rfl rfl <|
  bb_getr (k := 0) (ci := 8) (j := 8) (idx := 55) (a := 255) (zd (i := .getfield 55) (n := 3) (by decide +kernel)) (by decide +kernel) (by decide +kernel) (by decide +kernel) (by decide +kernel) rfl g460 h1 <|
  bb_iload (i := 4) (zd (i := .iload 4) (n := 2) (by decide +kernel)) rfl <|
  bb_lift (fun _ => q_iald (k := 255) (zd (i := .iaload) (n := 1) (by decide +kernel)) (by decide +kernel) (by decide +kernel) h2) <|
  k
theorem w_X8_best_92 {Q : qQ} {I : qMI} {L : qML} {R : qMR} {a1 : Int32} {a2 : Int32} {a3 : Int32} {a4 : Int32} {a5 : Int32} {s0 : Int32} (hQ : Q (some (.int s0)) 336 I L R) : wkB l G (d + 1) n_X8_best Q 92 [.ref 0, .int a1, .int a2, .int a3, .int a4, .int a5] [.int s0] I L R :=
  (fun lv hl => q_iret (zd (i := .ireturn) (n := 1) (by decide +kernel)) rfl rfl (Nat.le_refl _) (Nat.le_refl _) hQ)
theorem wq_X8_tallySeenHours_0 {Q : qQ} {I : qMI} {L : qML} {R : qMR} {a1 : Int32} {a2 : Int32} (k : wkB l G (d + 1) n_X8_tallySeenHours Q 2 [.ref 0, .int a1, .int a2, .int 0, wkU, wkU] [] I L R) : wkB l G (d + 1) n_X8_tallySeenHours Q 0 [.ref 0, .int a1, .int a2, wkU, wkU, wkU] [] I L R :=
  bb_lift (fun _ => q_iconst (n := 0) (zd (i := .iconst (0)) (n := 1) (by decide +kernel)) rfl) <|
  bb_istore_n (n := 3) (i := 3) (zd (i := .istore_n 3) (n := 1) (by decide +kernel)) rfl (by decide +kernel) (wkNl_i rfl) <|
  k
theorem wq_X8_tallySeenHours_2 {Q : qQ} {I : qMI} {L : qML} {R : qMR} {a1 : Int32} {a2 : Int32} {a3 : Int32} (kt : 20 ≤ a3 → wkB l G (d + 1) n_X8_tallySeenHours Q 21 [.ref 0, .int a1, .int a2, .int a3, wkU, wkU] [] I L R) (kf : ¬ 20 ≤ a3 → wkB l G (d + 1) n_X8_tallySeenHours Q 8 [.ref 0, .int a1, .int a2, .int a3, wkU, wkU] [] I L R) : wkB l G (d + 1) n_X8_tallySeenHours Q 2 [.ref 0, .int a1, .int a2, .int a3, wkU, wkU] [] I L R :=
  bb_iload_n (n := 3) (i := 3) (zd (i := .iload_n 3) (n := 1) (by decide +kernel)) rfl rfl <|
  bb_lift (fun _ => q_bipush (n := 20) (zd (i := .bipush (20)) (n := 2) (by decide +kernel)) rfl) <|
  (fun lv hl => q_icmp_ge (off := 16) (tgt := 21) (zd (i := .if_icmp .ge (16)) (n := 3) (by decide +kernel)) (by decide) (fun h => (kt h) lv hl) (fun h => (kf h) lv hl))
theorem wq_X8_tallySeenHours_8 {Q : qQ} {I : qMI} {L : qML} {R : qMR} {a1 : Int32} {a2 : Int32} {a3 : Int32} (h1 : R 0 8 = some 255) (h2 : vp_in a3 20) (k : wkB l G (d + 1) n_X8_tallySeenHours Q 2 [.ref 0, .int a1, .int a2, .int (a3 + 1), wkU, wkU] [] (qUp I 255 a3.toNatClampNeg 0) L R) : wkB l G (d + 1) n_X8_tallySeenHours Q 8 [.ref 0, .int a1, .int a2, .int a3, wkU, wkU] [] I L R :=
  bb_aload_n (n := 0) (i := 0) (zd (i := .aload_n 0) (n := 1) (by decide +kernel)) rfl rfl <|
  bb_getr (k := 0) (ci := 8) (j := 8) (idx := 55) (a := 255) (zd (i := .getfield 55) (n := 3) (by decide +kernel)) (by decide +kernel) (by decide +kernel) (by decide +kernel) (by decide +kernel) rfl g460 h1 <|
  bb_iload_n (n := 3) (i := 3) (zd (i := .iload_n 3) (n := 1) (by decide +kernel)) rfl rfl <|
  bb_lift (fun _ => q_iconst (n := 0) (zd (i := .iconst (0)) (n := 1) (by decide +kernel)) rfl) <|
  bb_lift (fun _ => q_iast (k := 255) (zd (i := .iastore) (n := 1) (by decide +kernel)) (by decide +kernel) (by decide +kernel) h2) <|
  bb_iinc (i := 3) (n := 1) (zd (i := .iinc 3 (1)) (n := 3) (by decide +kernel)) rfl rfl (by decide +kernel) (wkNl_i rfl) <|
  bb_lift (fun _ => q_goto (off := -16) (tgt := 2) (zd (i := .goto (-16)) (n := 3) (by decide +kernel)) (by decide)) k
theorem wq_X8_tallySeenHours_21 {Q : qQ} {I : qMI} {L : qML} {R : qMR} {a1 : Int32} {a2 : Int32} {a3 : Int32} (h1 : R 0 2 = some 21) (k : wkB l G (d + 1) n_X8_tallySeenHours Q 29 [.ref 0, .int a1, .int a2, .int (I 21 0), wkU, wkU] [] I L R) : wkB l G (d + 1) n_X8_tallySeenHours Q 21 [.ref 0, .int a1, .int a2, .int a3, wkU, wkU] [] I L R :=
  bb_aload_n (n := 0) (i := 0) (zd (i := .aload_n 0) (n := 1) (by decide +kernel)) rfl rfl <|
  bb_getr (k := 0) (ci := 8) (j := 2) (idx := 26) (a := 21) (zd (i := .getfield 26) (n := 3) (by decide +kernel)) (by decide +kernel) (by decide +kernel) (by decide +kernel) (by decide +kernel) rfl g454 h1 <|
  bb_geti (k := 21) (ci := 4) (j := 0) (idx := 140) (zd (i := .getfield 140) (n := 3) (by decide +kernel)) (by decide +kernel) (by decide +kernel) (by decide +kernel) (by decide +kernel) rfl g368 <|
  bb_istore_n (n := 3) (i := 3) (zd (i := .istore_n 3) (n := 1) (by decide +kernel)) rfl (by decide +kernel) (wkNl_i rfl) <|
  k
theorem wq_X8_tallySeenHours_29 {Q : qQ} {I : qMI} {L : qML} {R : qMR} {a1 : Int32} {a2 : Int32} {a3 : Int32} (h1 : R 0 2 = some 21) (kt : ((I 21 0) + a2) ≤ a3 → wkB l G (d + 1) n_X8_tallySeenHours Q 101 [.ref 0, .int a1, .int a2, .int a3, wkU, wkU] [] I L R) (kf : ¬ ((I 21 0) + a2) ≤ a3 → wkB l G (d + 1) n_X8_tallySeenHours Q 42 [.ref 0, .int a1, .int a2, .int a3, wkU, wkU] [] I L R) : wkB l G (d + 1) n_X8_tallySeenHours Q 29 [.ref 0, .int a1, .int a2, .int a3, wkU, wkU] [] I L R :=
  bb_iload_n (n := 3) (i := 3) (zd (i := .iload_n 3) (n := 1) (by decide +kernel)) rfl rfl <|
  bb_aload_n (n := 0) (i := 0) (zd (i := .aload_n 0) (n := 1) (by decide +kernel)) rfl rfl <|
  bb_getr (k := 0) (ci := 8) (j := 2) (idx := 26) (a := 21) (zd (i := .getfield 26) (n := 3) (by decide +kernel)) (by decide +kernel) (by decide +kernel) (by decide +kernel) (by decide +kernel) rfl g454 h1 <|
  bb_geti (k := 21) (ci := 4) (j := 0) (idx := 140) (zd (i := .getfield 140) (n := 3) (by decide +kernel)) (by decide +kernel) (by decide +kernel) (by decide +kernel) (by decide +kernel) rfl g368 <|
  bb_iload_n (n := 2) (i := 2) (zd (i := .iload_n 2) (n := 1) (by decide +kernel)) rfl rfl <|
  bb_lift (fun _ => q_iadd (zd (i := .iadd) (n := 1) (by decide +kernel))) <|
  (fun lv hl => q_icmp_ge (off := 62) (tgt := 101) (zd (i := .if_icmp .ge (62)) (n := 3) (by decide +kernel)) (by decide) (fun h => (kt h) lv hl) (fun h => (kf h) lv hl))
theorem wq_X8_tallySeenHours_42 {Q : qQ} {I : qMI} {L : qML} {R : qMR} {o : Nat} (ho : o = 9 ∨ o = 259) {a1 : Int32} {a2 : Int32} {a3 : Int32} (h1 : R 0 12 = some o) {P : Int32 → qMI → qML → qMR → Prop} (hc : wkCi l G d n_X0_heat [.ref o, .int a3] I L R P) (kk : ∀ y I' L' R', P y I' L' R' → wkB l G (d + 1) n_X8_tallySeenHours Q 50 [.ref 0, .int a1, .int a2, .int a3, wkU, wkU] [.int y] I' L' R') : wkB l G (d + 1) n_X8_tallySeenHours Q 42 [.ref 0, .int a1, .int a2, .int a3, wkU, wkU] [] I L R :=
  bb_aload_n (n := 0) (i := 0) (zd (i := .aload_n 0) (n := 1) (by decide +kernel)) rfl rfl <|
  bb_getr (k := 0) (ci := 8) (j := 12) (idx := 71) (a := o) (zd (i := .getfield 71) (n := 3) (by decide +kernel)) (by decide +kernel) (by decide +kernel) (by decide +kernel) (by decide +kernel) rfl g464 h1 <|
  bb_iload_n (n := 3) (i := 3) (zd (i := .iload_n 3) (n := 1) (by decide +kernel)) rfl rfl <|
  bb_callV (idx := 143) (k := o) (ci := 0) (N := n_X0_heat) (As := [.int a3]) (st := []) (zd (i := .invokevirtual 143) (n := 3) (by decide +kernel)) to_X0_heat g716 g717 g718 (Nat.le_of_ble_eq_true rfl) (by rcases ho with rfl | rfl <;> decide +kernel) (by rcases ho with rfl | rfl <;> decide +kernel) (by decide +kernel) rfl rfl rfl hc (fun r I' L' R' hq => by obtain ⟨y, rfl, hp⟩ := hq; exact kk y I' L' R' hp)
theorem wq_X8_tallySeenHours_50 {Q : qQ} {I : qMI} {L : qML} {R : qMR} {a1 : Int32} {a2 : Int32} {a3 : Int32} {s0 : Int32} (k : wkB l G (d + 1) n_X8_tallySeenHours Q 55 [.ref 0, .int a1, .int a2, .int a3, .int s0, .int 0] [] I L R) : wkB l G (d + 1) n_X8_tallySeenHours Q 50 [.ref 0, .int a1, .int a2, .int a3, wkU, wkU] [.int s0] I L R :=
  bb_istore (i := 4) (zd (i := .istore 4) (n := 2) (by decide +kernel)) (by decide +kernel) (wkNl_i rfl) <|
  bb_lift (fun _ => q_iconst (n := 0) (zd (i := .iconst (0)) (n := 1) (by decide +kernel)) rfl) <|
  bb_istore (i := 5) (zd (i := .istore 5) (n := 2) (by decide +kernel)) (by decide +kernel) (wkNl_i rfl) <|
  k
theorem wq_X8_tallySeenHours_55 {Q : qQ} {I : qMI} {L : qML} {R : qMR} {a1 : Int32} {a2 : Int32} {a3 : Int32} {a4 : Int32} {a5 : Int32} (kt : 20 ≤ a5 → wkB l G (d + 1) n_X8_tallySeenHours Q 95 [.ref 0, .int a1, .int a2, .int a3, .int a4, .int a5] [] I L R) (kf : ¬ 20 ≤ a5 → wkB l G (d + 1) n_X8_tallySeenHours Q 62 [.ref 0, .int a1, .int a2, .int a3, .int a4, .int a5] [] I L R) : wkB l G (d + 1) n_X8_tallySeenHours Q 55 [.ref 0, .int a1, .int a2, .int a3, .int a4, .int a5] [] I L R :=
  bb_iload (i := 5) (zd (i := .iload 5) (n := 2) (by decide +kernel)) rfl <|
  bb_lift (fun _ => q_bipush (n := 20) (zd (i := .bipush (20)) (n := 2) (by decide +kernel)) rfl) <|
  (fun lv hl => q_icmp_ge (off := 36) (tgt := 95) (zd (i := .if_icmp .ge (36)) (n := 3) (by decide +kernel)) (by decide) (fun h => (kt h) lv hl) (fun h => (kf h) lv hl))
theorem wq_X8_tallySeenHours_62 {Q : qQ} {I : qMI} {L : qML} {R : qMR} {o : Nat} (ho : o = 9 ∨ o = 259) {a1 : Int32} {a2 : Int32} {a3 : Int32} {a4 : Int32} {a5 : Int32} (h1 : R 0 12 = some o) {P : Int32 → qMI → qML → qMR → Prop} (hc : wkCi l G d n_X0_isSeenFrom [.ref o, .int a5, .int a1, .int a3, .int a4] I L R P) (kk : ∀ y I' L' R', P y I' L' R' → wkB l G (d + 1) n_X8_tallySeenHours Q 75 [.ref 0, .int a1, .int a2, .int a3, .int a4, .int a5] [.int y] I' L' R') : wkB l G (d + 1) n_X8_tallySeenHours Q 62 [.ref 0, .int a1, .int a2, .int a3, .int a4, .int a5] [] I L R :=
  bb_aload_n (n := 0) (i := 0) (zd (i := .aload_n 0) (n := 1) (by decide +kernel)) rfl rfl <|
  bb_getr (k := 0) (ci := 8) (j := 12) (idx := 71) (a := o) (zd (i := .getfield 71) (n := 3) (by decide +kernel)) (by decide +kernel) (by decide +kernel) (by decide +kernel) (by decide +kernel) rfl g464 h1 <|
  bb_iload (i := 5) (zd (i := .iload 5) (n := 2) (by decide +kernel)) rfl <|
  bb_iload_n (n := 1) (i := 1) (zd (i := .iload_n 1) (n := 1) (by decide +kernel)) rfl rfl <|
  bb_iload_n (n := 3) (i := 3) (zd (i := .iload_n 3) (n := 1) (by decide +kernel)) rfl rfl <|
  bb_iload (i := 4) (zd (i := .iload 4) (n := 2) (by decide +kernel)) rfl <|
  bb_callV (idx := 239) (k := o) (ci := 0) (N := n_X0_isSeenFrom) (As := [.int a5, .int a1, .int a3, .int a4]) (st := []) (zd (i := .invokevirtual 239) (n := 3) (by decide +kernel)) to_X0_isSeenFrom g745 g746 g747 (Nat.le_of_ble_eq_true rfl) (by rcases ho with rfl | rfl <;> decide +kernel) (by rcases ho with rfl | rfl <;> decide +kernel) (by decide +kernel) rfl rfl rfl hc (fun r I' L' R' hq => by obtain ⟨y, rfl, hp⟩ := hq; exact kk y I' L' R' hp)
theorem wq_X8_tallySeenHours_75 {Q : qQ} {I : qMI} {L : qML} {R : qMR} {a1 : Int32} {a2 : Int32} {a3 : Int32} {a4 : Int32} {a5 : Int32} {s0 : Int32} (kt : s0 = 0 → wkB l G (d + 1) n_X8_tallySeenHours Q 89 [.ref 0, .int a1, .int a2, .int a3, .int a4, .int a5] [] I L R) (kf : ¬ s0 = 0 → wkB l G (d + 1) n_X8_tallySeenHours Q 78 [.ref 0, .int a1, .int a2, .int a3, .int a4, .int a5] [] I L R) : wkB l G (d + 1) n_X8_tallySeenHours Q 75 [.ref 0, .int a1, .int a2, .int a3, .int a4, .int a5] [.int s0] I L R :=
  (fun lv hl => q_if_eq (off := 14) (tgt := 89) (zd (i := .ifCond .eq (14)) (n := 3) (by decide +kernel)) (by decide) (fun h => (kt h) lv hl) (fun h => (kf h) lv hl))
theorem wq_X8_tallySeenHours_78 {Q : qQ} {I : qMI} {L : qML} {R : qMR} {a1 : Int32} {a2 : Int32} {a3 : Int32} {a4 : Int32} {a5 : Int32} (h1 : R 0 8 = some 255) (h2 : vp_in a5 20) (h3 : vp_in a5 20) (k : wkB l G (d + 1) n_X8_tallySeenHours Q 89 [.ref 0, .int a1, .int a2, .int a3, .int a4, .int a5] [] (qUp I 255 a5.toNatClampNeg ((I 255 a5.toNatClampNeg) + 1)) L R) : wkB l G (d + 1) n_X8_tallySeenHours Q 78 [.ref 0, .int a1, .int a2, .int a3, .int a4, .int a5] [] I L R :=
  bb_aload_n (n := 0) (i := 0) (zd (i := .aload_n 0) (n := 1) (by decide +kernel)) rfl rfl <|
  bb_getr (k := 0) (ci := 8) (j := 8) (idx := 55) (a := 255) (zd (i := .getfield 55) (n := 3) (by decide +kernel)) (by decide +kernel) (by decide +kernel) (by decide +kernel) (by decide +kernel) rfl g460 h1 <|
  bb_iload (i := 5) (zd (i := .iload 5) (n := 2) (by decide +kernel)) rfl <|
  bb_lift (fun _ => q_dup2 (zd (i := .dup2) (n := 1) (by decide +kernel)) rfl rfl) <|
  bb_lift (fun _ => q_iald (k := 255) (zd (i := .iaload) (n := 1) (by decide +kernel)) (by decide +kernel) (by decide +kernel) h2) <|
  bb_lift (fun _ => q_iconst (n := 1) (zd (i := .iconst (1)) (n := 1) (by decide +kernel)) rfl) <|
  bb_lift (fun _ => q_iadd (zd (i := .iadd) (n := 1) (by decide +kernel))) <|
  bb_lift (fun _ => q_iast (k := 255) (zd (i := .iastore) (n := 1) (by decide +kernel)) (by decide +kernel) (by decide +kernel) h3) <|
  k
theorem wq_X8_tallySeenHours_89 {Q : qQ} {I : qMI} {L : qML} {R : qMR} {a1 : Int32} {a2 : Int32} {a3 : Int32} {a4 : Int32} {a5 : Int32} (k : wkB l G (d + 1) n_X8_tallySeenHours Q 55 [.ref 0, .int a1, .int a2, .int a3, .int a4, .int (a5 + 1)] [] I L R) : wkB l G (d + 1) n_X8_tallySeenHours Q 89 [.ref 0, .int a1, .int a2, .int a3, .int a4, .int a5] [] I L R :=
  bb_iinc (i := 5) (n := 1) (zd (i := .iinc 5 (1)) (n := 3) (by decide +kernel)) rfl rfl (by decide +kernel) (wkNl_i rfl) <|
  bb_lift (fun _ => q_goto (off := -37) (tgt := 55) (zd (i := .goto (-37)) (n := 3) (by decide +kernel)) (by decide)) k
theorem wq_X8_tallySeenHours_95 {Q : qQ} {I : qMI} {L : qML} {R : qMR} {a1 : Int32} {a2 : Int32} {a3 : Int32} {a4 : Int32} {a5 : Int32} (k : wkB l G (d + 1) n_X8_tallySeenHours Q 29 [.ref 0, .int a1, .int a2, .int (a3 + 1), wkU, wkU] [] I L R) : wkB l G (d + 1) n_X8_tallySeenHours Q 95 [.ref 0, .int a1, .int a2, .int a3, .int a4, .int a5] [] I L R :=
  bb_iinc (i := 3) (n := 1) (zd (i := .iinc 3 (1)) (n := 3) (by decide +kernel)) rfl rfl (by decide +kernel) (wkNl_i rfl) <|
  bb_lift (fun _ => q_goto (off := -69) (tgt := 29) (zd (i := .goto (-69)) (n := 3) (by decide +kernel)) (by decide)) (wkB_le (vs := [.ref 0, .int a1, .int a2, .int (a3 + 1), wkU, wkU]) (ws := [.ref 0, .int a1, .int a2, .int (a3 + 1), .int a4, .int a5]) ⟨Or.inr rfl, Or.inr rfl, Or.inr rfl, Or.inr rfl, Or.inl rfl, Or.inl rfl, trivial⟩ (k))
theorem wq_X8_tallySeenHours_101 {Q : qQ} {I : qMI} {L : qML} {R : qMR} {a1 : Int32} {a2 : Int32} {a3 : Int32} (hQ : Q none 336 I L R) : wkB l G (d + 1) n_X8_tallySeenHours Q 101 [.ref 0, .int a1, .int a2, .int a3, wkU, wkU] [] I L R :=
  (fun lv hl => q_vret (zd (i := .return_) (n := 1) (by decide +kernel)) rfl (Nat.le_refl _) (Nat.le_refl _) hQ)
theorem w_X8_cool_0 {Q : qQ} {I : qMI} {L : qML} {R : qMR}  (k : wkB l G (d + 1) n_X8_cool Q 2 [.ref 0, .int 0] [] I L R) : wkB l G (d + 1) n_X8_cool Q 0 [.ref 0, wkU] [] I L R :=
  bb_lift (fun _ => q_iconst (n := 0) (zd (i := .iconst (0)) (n := 1) (by decide +kernel)) rfl) <|
  bb_istore_n (n := 1) (i := 1) (zd (i := .istore_n 1) (n := 1) (by decide +kernel)) rfl (by decide +kernel) (wkNl_r rfl) <|
  k
theorem w_X8_cool_2 {Q : qQ} {I : qMI} {L : qML} {R : qMR} {a1 : Int32} (kt : 48 < a1 → wkB l G (d + 1) n_X8_cool Q 32 [.ref 0, .int a1] [] I L R) (kf : ¬ 48 < a1 → wkB l G (d + 1) n_X8_cool Q 8 [.ref 0, .int a1] [] I L R) : wkB l G (d + 1) n_X8_cool Q 2 [.ref 0, .int a1] [] I L R :=
  bb_iload_n (n := 1) (i := 1) (zd (i := .iload_n 1) (n := 1) (by decide +kernel)) rfl rfl <|
  bb_lift (fun _ => q_bipush (n := 48) (zd (i := .bipush (48)) (n := 2) (by decide +kernel)) rfl) <|
  (fun lv hl => q_icmp_gt (off := 27) (tgt := 32) (zd (i := .if_icmp .gt (27)) (n := 3) (by decide +kernel)) (by decide) (fun h => (kt h) lv hl) (fun h => (kf h) lv hl))
theorem w_X8_cool_8 {Q : qQ} {I : qMI} {L : qML} {R : qMR} {a1 : Int32} (h1 : R 0 2 = some 21) {P : Int32 → qMI → qML → qMR → Prop} (hc : wkCi l G d n_X8_thingsSeen [.ref 0, .int ((I 21 0) + a1)] I L R P) (kk : ∀ y I' L' R', P y I' L' R' → wkB l G (d + 1) n_X8_cool Q 21 [.ref 0, .int a1] [.int y] I' L' R') : wkB l G (d + 1) n_X8_cool Q 8 [.ref 0, .int a1] [] I L R :=
  bb_aload_n (n := 0) (i := 0) (zd (i := .aload_n 0) (n := 1) (by decide +kernel)) rfl rfl <|
  bb_aload_n (n := 0) (i := 0) (zd (i := .aload_n 0) (n := 1) (by decide +kernel)) rfl rfl <|
  bb_getr (k := 0) (ci := 8) (j := 2) (idx := 26) (a := 21) (zd (i := .getfield 26) (n := 3) (by decide +kernel)) (by decide +kernel) (by decide +kernel) (by decide +kernel) (by decide +kernel) rfl g454 h1 <|
  bb_geti (k := 21) (ci := 4) (j := 0) (idx := 140) (zd (i := .getfield 140) (n := 3) (by decide +kernel)) (by decide +kernel) (by decide +kernel) (by decide +kernel) (by decide +kernel) rfl g368 <|
  bb_iload_n (n := 1) (i := 1) (zd (i := .iload_n 1) (n := 1) (by decide +kernel)) rfl rfl <|
  bb_lift (fun _ => q_iadd (zd (i := .iadd) (n := 1) (by decide +kernel))) <|
  bb_callV (idx := 294) (k := 0) (ci := 8) (N := n_X8_thingsSeen) (As := [.int ((I 21 0) + a1)]) (st := []) (zd (i := .invokevirtual 294) (n := 3) (by decide +kernel)) to_X8_thingsSeen g1006 g1008 g36 (Nat.le_of_ble_eq_true rfl) (by decide +kernel) (by decide +kernel) (by decide +kernel) rfl rfl rfl hc (fun r I' L' R' hq => by obtain ⟨y, rfl, hp⟩ := hq; exact kk y I' L' R' hp)
theorem w_X8_cool_21 {Q : qQ} {I : qMI} {L : qML} {R : qMR} {a1 : Int32} {s0 : Int32} (kt : ¬ s0 = 0 → wkB l G (d + 1) n_X8_cool Q 26 [.ref 0, .int a1] [] I L R) (kf : s0 = 0 → wkB l G (d + 1) n_X8_cool Q 24 [.ref 0, .int a1] [] I L R) : wkB l G (d + 1) n_X8_cool Q 21 [.ref 0, .int a1] [.int s0] I L R :=
  (fun lv hl => q_if_ne (off := 5) (tgt := 26) (zd (i := .ifCond .ne (5)) (n := 3) (by decide +kernel)) (by decide) (fun h => (kt h) lv hl) (fun h => (kf h) lv hl))
theorem w_X8_cool_24 {Q : qQ} {I : qMI} {L : qML} {R : qMR} {a1 : Int32} (hQ : Q (some (.int a1)) 336 I L R) : wkB l G (d + 1) n_X8_cool Q 24 [.ref 0, .int a1] [] I L R :=
  bb_iload_n (n := 1) (i := 1) (zd (i := .iload_n 1) (n := 1) (by decide +kernel)) rfl rfl <|
  (fun lv hl => q_iret (zd (i := .ireturn) (n := 1) (by decide +kernel)) rfl rfl (Nat.le_refl _) (Nat.le_refl _) hQ)
theorem w_X8_cool_26 {Q : qQ} {I : qMI} {L : qML} {R : qMR} {a1 : Int32} (k : wkB l G (d + 1) n_X8_cool Q 2 [.ref 0, .int (a1 + 1)] [] I L R) : wkB l G (d + 1) n_X8_cool Q 26 [.ref 0, .int a1] [] I L R :=
  bb_iinc (i := 1) (n := 1) (zd (i := .iinc 1 (1)) (n := 3) (by decide +kernel)) rfl rfl (by decide +kernel) (wkNl_r rfl) <|
  bb_lift (fun _ => q_goto (off := -27) (tgt := 2) (zd (i := .goto (-27)) (n := 3) (by decide +kernel)) (by decide)) k
theorem w_X8_cool_32 {Q : qQ} {I : qMI} {L : qML} {R : qMR} {a1 : Int32} (hQ : Q (some (.int (-2))) 336 I L R) : wkB l G (d + 1) n_X8_cool Q 32 [.ref 0, .int a1] [] I L R :=
  bb_lift (fun _ => q_bipush (n := -2) (zd (i := .bipush (-2)) (n := 2) (by decide +kernel)) rfl) <|
  (fun lv hl => q_iret (zd (i := .ireturn) (n := 1) (by decide +kernel)) rfl rfl (Nat.le_refl _) (Nat.le_refl _) hQ)
theorem w_X8_near_0 {Q : qQ} {I : qMI} {L : qML} {R : qMR} {a1 : Int32} {a2 : Int32} {P : Int32 → qMI → qML → qMR → Prop} (hc : wkCi l G d n_X8_isX [.int a1] I L R P) (kk : ∀ y I' L' R', P y I' L' R' → wkB l G (d + 1) n_X8_near Q 4 [.ref 0, .int a1, .int a2, wkU, wkU, wkU, wkU, wkU] [.int y] I' L' R') : wkB l G (d + 1) n_X8_near Q 0 [.ref 0, .int a1, .int a2, wkU, wkU, wkU, wkU, wkU] [] I L R :=
  bb_iload_n (n := 1) (i := 1) (zd (i := .iload_n 1) (n := 1) (by decide +kernel)) rfl rfl <|
  bb_callS (idx := 175) (N := n_X8_isX) (As := [.int a1]) (st := []) (zd (i := .invokestatic 175) (n := 3) (by decide +kernel)) to_X8_isX g805 g806 (Nat.le_of_ble_eq_true rfl) rfl rfl hc (fun r I' L' R' hq => by obtain ⟨y, rfl, hp⟩ := hq; exact kk y I' L' R' hp)
theorem w_X8_near_4 {Q : qQ} {I : qMI} {L : qML} {R : qMR} {a1 : Int32} {a2 : Int32} {s0 : Int32} (kt : s0 = 0 → wkB l G (d + 1) n_X8_near Q 16 [.ref 0, .int a1, .int a2, wkU, wkU, wkU, wkU, wkU] [] I L R) (kf : ¬ s0 = 0 → wkB l G (d + 1) n_X8_near Q 7 [.ref 0, .int a1, .int a2, wkU, wkU, wkU, wkU, wkU] [] I L R) : wkB l G (d + 1) n_X8_near Q 4 [.ref 0, .int a1, .int a2, wkU, wkU, wkU, wkU, wkU] [.int s0] I L R :=
  (fun lv hl => q_if_eq (off := 12) (tgt := 16) (zd (i := .ifCond .eq (12)) (n := 3) (by decide +kernel)) (by decide) (fun h => (kt h) lv hl) (fun h => (kf h) lv hl))
theorem w_X8_near_7 {Q : qQ} {I : qMI} {L : qML} {R : qMR} {a1 : Int32} {a2 : Int32} (kt : a2 < 0 → wkB l G (d + 1) n_X8_near Q 16 [.ref 0, .int a1, .int a2, wkU, wkU, wkU, wkU, wkU] [] I L R) (kf : ¬ a2 < 0 → wkB l G (d + 1) n_X8_near Q 11 [.ref 0, .int a1, .int a2, wkU, wkU, wkU, wkU, wkU] [] I L R) : wkB l G (d + 1) n_X8_near Q 7 [.ref 0, .int a1, .int a2, wkU, wkU, wkU, wkU, wkU] [] I L R :=
  bb_iload_n (n := 2) (i := 2) (zd (i := .iload_n 2) (n := 1) (by decide +kernel)) rfl rfl <|
  (fun lv hl => q_if_lt (off := 8) (tgt := 16) (zd (i := .ifCond .lt (8)) (n := 3) (by decide +kernel)) (by decide) (fun h => (kt h) lv hl) (fun h => (kf h) lv hl))
theorem w_X8_near_11 {Q : qQ} {I : qMI} {L : qML} {R : qMR} {a1 : Int32} {a2 : Int32} (kt : a2 ≤ 1 → wkB l G (d + 1) n_X8_near Q 18 [.ref 0, .int a1, .int a2, wkU, wkU, wkU, wkU, wkU] [] I L R) (kf : ¬ a2 ≤ 1 → wkB l G (d + 1) n_X8_near Q 16 [.ref 0, .int a1, .int a2, wkU, wkU, wkU, wkU, wkU] [] I L R) : wkB l G (d + 1) n_X8_near Q 11 [.ref 0, .int a1, .int a2, wkU, wkU, wkU, wkU, wkU] [] I L R :=
  bb_iload_n (n := 2) (i := 2) (zd (i := .iload_n 2) (n := 1) (by decide +kernel)) rfl rfl <|
  bb_lift (fun _ => q_iconst (n := 1) (zd (i := .iconst (1)) (n := 1) (by decide +kernel)) rfl) <|
  (fun lv hl => q_icmp_le (off := 5) (tgt := 18) (zd (i := .if_icmp .le (5)) (n := 3) (by decide +kernel)) (by decide) (fun h => (kt h) lv hl) (fun h => (kf h) lv hl))
theorem w_X8_near_16 {Q : qQ} {I : qMI} {L : qML} {R : qMR} {a1 : Int32} {a2 : Int32} (hQ : Q (some (.int (-1))) 336 I L R) : wkB l G (d + 1) n_X8_near Q 16 [.ref 0, .int a1, .int a2, wkU, wkU, wkU, wkU, wkU] [] I L R :=
  bb_lift (fun _ => q_iconst (n := -1) (zd (i := .iconst (-1)) (n := 1) (by decide +kernel)) rfl) <|
  (fun lv hl => q_iret (zd (i := .ireturn) (n := 1) (by decide +kernel)) rfl rfl (Nat.le_refl _) (Nat.le_refl _) hQ)
theorem w_X8_near_18 {Q : qQ} {I : qMI} {L : qML} {R : qMR} {o : Nat} (ho : o = 9 ∨ o = 259) {a1 : Int32} {a2 : Int32} (h1 : R 0 12 = some o) (h2 : R 0 2 = some 21) {P : Int32 → qMI → qML → qMR → Prop} (hc : wkCi l G d n_X0_heat [.ref o, .int (I 21 0)] I L R P) (kk : ∀ y I' L' R', P y I' L' R' → wkB l G (d + 1) n_X8_near Q 32 [.ref 0, .int a1, .int a2, wkU, wkU, wkU, wkU, wkU] [.int y] I' L' R') : wkB l G (d + 1) n_X8_near Q 18 [.ref 0, .int a1, .int a2, wkU, wkU, wkU, wkU, wkU] [] I L R :=
  bb_aload_n (n := 0) (i := 0) (zd (i := .aload_n 0) (n := 1) (by decide +kernel)) rfl rfl <|
  bb_getr (k := 0) (ci := 8) (j := 12) (idx := 71) (a := o) (zd (i := .getfield 71) (n := 3) (by decide +kernel)) (by decide +kernel) (by decide +kernel) (by decide +kernel) (by decide +kernel) rfl g464 h1 <|
  bb_aload_n (n := 0) (i := 0) (zd (i := .aload_n 0) (n := 1) (by decide +kernel)) rfl rfl <|
  bb_getr (k := 0) (ci := 8) (j := 2) (idx := 26) (a := 21) (zd (i := .getfield 26) (n := 3) (by decide +kernel)) (by decide +kernel) (by decide +kernel) (by decide +kernel) (by decide +kernel) rfl g454 h2 <|
  bb_geti (k := 21) (ci := 4) (j := 0) (idx := 140) (zd (i := .getfield 140) (n := 3) (by decide +kernel)) (by decide +kernel) (by decide +kernel) (by decide +kernel) (by decide +kernel) rfl g368 <|
  bb_callV (idx := 143) (k := o) (ci := 0) (N := n_X0_heat) (As := [.int (I 21 0)]) (st := []) (zd (i := .invokevirtual 143) (n := 3) (by decide +kernel)) to_X0_heat g716 g717 g718 (Nat.le_of_ble_eq_true rfl) (by rcases ho with rfl | rfl <;> decide +kernel) (by rcases ho with rfl | rfl <;> decide +kernel) (by decide +kernel) rfl rfl rfl hc (fun r I' L' R' hq => by obtain ⟨y, rfl, hp⟩ := hq; exact kk y I' L' R' hp)
theorem w_X8_near_32 {Q : qQ} {I : qMI} {L : qML} {R : qMR} {a1 : Int32} {a2 : Int32} {s0 : Int32} (k : wkB l G (d + 1) n_X8_near Q 44 [.ref 0, .int a1, .int a2, .int s0, .int (-2), .int 20, .int 0, wkU] [] I L R) : wkB l G (d + 1) n_X8_near Q 32 [.ref 0, .int a1, .int a2, wkU, wkU, wkU, wkU, wkU] [.int s0] I L R :=
  bb_istore_n (n := 3) (i := 3) (zd (i := .istore_n 3) (n := 1) (by decide +kernel)) rfl (by decide +kernel) (wkNl_i rfl) <|
  bb_lift (fun _ => q_bipush (n := -2) (zd (i := .bipush (-2)) (n := 2) (by decide +kernel)) rfl) <|
  bb_istore (i := 4) (zd (i := .istore 4) (n := 2) (by decide +kernel)) (by decide +kernel) (wkNl_i rfl) <|
  bb_lift (fun _ => q_bipush (n := 20) (zd (i := .bipush (20)) (n := 2) (by decide +kernel)) rfl) <|
  bb_istore (i := 5) (zd (i := .istore 5) (n := 2) (by decide +kernel)) (by decide +kernel) (wkNl_i rfl) <|
  bb_lift (fun _ => q_iconst (n := 0) (zd (i := .iconst (0)) (n := 1) (by decide +kernel)) rfl) <|
  bb_istore (i := 6) (zd (i := .istore 6) (n := 2) (by decide +kernel)) (by decide +kernel) (wkNl_i rfl) <|
  k
theorem w_X8_near_44 {Q : qQ} {I : qMI} {L : qML} {R : qMR} {o : Nat} (ho : o = 9 ∨ o = 259) {a1 : Int32} {a2 : Int32} {a3 : Int32} {a4 : Int32} {a5 : Int32} {a6 : Int32} (h1 : R 0 12 = some o) (kt : (I o 2) ≤ a6 → wkB l G (d + 1) n_X8_near Q 113 [.ref 0, .int a1, .int a2, .int a3, .int a4, .int a5, .int a6, wkU] [] I L R) (kf : ¬ (I o 2) ≤ a6 → wkB l G (d + 1) n_X8_near Q 56 [.ref 0, .int a1, .int a2, .int a3, .int a4, .int a5, .int a6, wkU] [] I L R) : wkB l G (d + 1) n_X8_near Q 44 [.ref 0, .int a1, .int a2, .int a3, .int a4, .int a5, .int a6, wkU] [] I L R :=
  bb_iload (i := 6) (zd (i := .iload 6) (n := 2) (by decide +kernel)) rfl <|
  bb_aload_n (n := 0) (i := 0) (zd (i := .aload_n 0) (n := 1) (by decide +kernel)) rfl rfl <|
  bb_getr (k := 0) (ci := 8) (j := 12) (idx := 71) (a := o) (zd (i := .getfield 71) (n := 3) (by decide +kernel)) (by decide +kernel) (by decide +kernel) (by decide +kernel) (by decide +kernel) rfl g464 h1 <|
  bb_geti (k := o) (ci := 0) (j := 2) (idx := 236) (zd (i := .getfield 236) (n := 3) (by decide +kernel)) (by rcases ho with rfl | rfl <;> decide +kernel) (by rcases ho with rfl | rfl <;> decide +kernel) (by decide +kernel) (by decide +kernel) rfl g280 <|
  (fun lv hl => q_icmp_ge (off := 60) (tgt := 113) (zd (i := .if_icmp .ge (60)) (n := 3) (by decide +kernel)) (by decide) (fun h => (kt h) lv hl) (fun h => (kf h) lv hl))
theorem w_X8_near_56 {Q : qQ} {I : qMI} {L : qML} {R : qMR} {o : Nat} (ho : o = 9 ∨ o = 259) {a1 : Int32} {a2 : Int32} {a3 : Int32} {a4 : Int32} {a5 : Int32} {a6 : Int32} (h1 : R 0 12 = some o) (h2 : R 0 2 = some 21) {P : Int32 → qMI → qML → qMR → Prop} (hc : wkCi l G d n_X0_spotFrom [.ref o, .int a1, .int a6, .int (I 21 0), .int a3] I L R P) (kk : ∀ y I' L' R', P y I' L' R' → wkB l G (d + 1) n_X8_near Q 74 [.ref 0, .int a1, .int a2, .int a3, .int a4, .int a5, .int a6, wkU] [.int y] I' L' R') : wkB l G (d + 1) n_X8_near Q 56 [.ref 0, .int a1, .int a2, .int a3, .int a4, .int a5, .int a6, wkU] [] I L R :=
  bb_aload_n (n := 0) (i := 0) (zd (i := .aload_n 0) (n := 1) (by decide +kernel)) rfl rfl <|
  bb_getr (k := 0) (ci := 8) (j := 12) (idx := 71) (a := o) (zd (i := .getfield 71) (n := 3) (by decide +kernel)) (by decide +kernel) (by decide +kernel) (by decide +kernel) (by decide +kernel) rfl g464 h1 <|
  bb_iload_n (n := 1) (i := 1) (zd (i := .iload_n 1) (n := 1) (by decide +kernel)) rfl rfl <|
  bb_iload (i := 6) (zd (i := .iload 6) (n := 2) (by decide +kernel)) rfl <|
  bb_aload_n (n := 0) (i := 0) (zd (i := .aload_n 0) (n := 1) (by decide +kernel)) rfl rfl <|
  bb_getr (k := 0) (ci := 8) (j := 2) (idx := 26) (a := 21) (zd (i := .getfield 26) (n := 3) (by decide +kernel)) (by decide +kernel) (by decide +kernel) (by decide +kernel) (by decide +kernel) rfl g454 h2 <|
  bb_geti (k := 21) (ci := 4) (j := 0) (idx := 140) (zd (i := .getfield 140) (n := 3) (by decide +kernel)) (by decide +kernel) (by decide +kernel) (by decide +kernel) (by decide +kernel) rfl g368 <|
  bb_iload_n (n := 3) (i := 3) (zd (i := .iload_n 3) (n := 1) (by decide +kernel)) rfl rfl <|
  bb_callV (idx := 224) (k := o) (ci := 0) (N := n_X0_spotFrom) (As := [.int a1, .int a6, .int (I 21 0), .int a3]) (st := []) (zd (i := .invokevirtual 224) (n := 3) (by decide +kernel)) to_X0_spotFrom g901 g902 g903 (Nat.le_of_ble_eq_true rfl) (by rcases ho with rfl | rfl <;> decide +kernel) (by rcases ho with rfl | rfl <;> decide +kernel) (by decide +kernel) rfl rfl rfl hc (fun r I' L' R' hq => by obtain ⟨y, rfl, hp⟩ := hq; exact kk y I' L' R' hp)
theorem w_X8_near_74 {Q : qQ} {I : qMI} {L : qML} {R : qMR} {a1 : Int32} {a2 : Int32} {a3 : Int32} {a4 : Int32} {a5 : Int32} {a6 : Int32} {s0 : Int32} (kt : s0 = (-1) → wkB l G (d + 1) n_X8_near Q 107 [.ref 0, .int a1, .int a2, .int a3, .int a4, .int a5, .int a6, .int s0] [] I L R) (kf : ¬ s0 = (-1) → wkB l G (d + 1) n_X8_near Q 82 [.ref 0, .int a1, .int a2, .int a3, .int a4, .int a5, .int a6, .int s0] [] I L R) : wkB l G (d + 1) n_X8_near Q 74 [.ref 0, .int a1, .int a2, .int a3, .int a4, .int a5, .int a6, wkU] [.int s0] I L R :=
  bb_istore (i := 7) (zd (i := .istore 7) (n := 2) (by decide +kernel)) (by decide +kernel) (wkNl_i rfl) <|
  bb_iload (i := 7) (zd (i := .iload 7) (n := 2) (by decide +kernel)) rfl <|
  bb_lift (fun _ => q_iconst (n := -1) (zd (i := .iconst (-1)) (n := 1) (by decide +kernel)) rfl) <|
  (fun lv hl => q_icmp_eq (off := 28) (tgt := 107) (zd (i := .if_icmp .eq (28)) (n := 3) (by decide +kernel)) (by decide) (fun h => (kt h) lv hl) (fun h => (kf h) lv hl))
theorem w_X8_near_82 {Q : qQ} {I : qMI} {L : qML} {R : qMR} {a1 : Int32} {a2 : Int32} {a3 : Int32} {a4 : Int32} {a5 : Int32} {a6 : Int32} {a7 : Int32} (kt : a5 ≤ (if 0 ≤ (a7 - a1) then (a7 - a1) else 0 - (a7 - a1)) → wkB l G (d + 1) n_X8_near Q 107 [.ref 0, .int a1, .int a2, .int a3, .int a4, .int a5, .int a6, .int a7] [] I L R) (kf : ¬ a5 ≤ (if 0 ≤ (a7 - a1) then (a7 - a1) else 0 - (a7 - a1)) → wkB l G (d + 1) n_X8_near Q 94 [.ref 0, .int a1, .int a2, .int a3, .int a4, .int a5, .int a6, .int a7] [] I L R) : wkB l G (d + 1) n_X8_near Q 82 [.ref 0, .int a1, .int a2, .int a3, .int a4, .int a5, .int a6, .int a7] [] I L R :=
  bb_iload (i := 7) (zd (i := .iload 7) (n := 2) (by decide +kernel)) rfl <|
  bb_iload_n (n := 1) (i := 1) (zd (i := .iload_n 1) (n := 1) (by decide +kernel)) rfl rfl <|
  bb_lift (fun _ => q_isub (zd (i := .isub) (n := 1) (by decide +kernel))) <|
  bb_lift (fun _ => q_abs (idx := 247) (zd (i := .invokestatic 247) (n := 3) (by decide +kernel)) g943 g754 g111 g755 (Nat.le_of_ble_eq_true rfl) (Nat.le_refl _) (Nat.le_refl _)) <|
  bb_iload (i := 5) (zd (i := .iload 5) (n := 2) (by decide +kernel)) rfl <|
  (fun lv hl => q_icmp_ge (off := 16) (tgt := 107) (zd (i := .if_icmp .ge (16)) (n := 3) (by decide +kernel)) (by decide) (fun h => (kt h) lv hl) (fun h => (kf h) lv hl))
theorem w_X8_near_94 {Q : qQ} {I : qMI} {L : qML} {R : qMR} {a1 : Int32} {a2 : Int32} {a3 : Int32} {a4 : Int32} {a5 : Int32} {a6 : Int32} {a7 : Int32} (k : wkB l G (d + 1) n_X8_near Q 107 [.ref 0, .int a1, .int a2, .int a3, .int a6, .int (if 0 ≤ (a7 - a1) then (a7 - a1) else 0 - (a7 - a1)), .int a6, .int a7] [] I L R) : wkB l G (d + 1) n_X8_near Q 94 [.ref 0, .int a1, .int a2, .int a3, .int a4, .int a5, .int a6, .int a7] [] I L R :=
  bb_iload (i := 6) (zd (i := .iload 6) (n := 2) (by decide +kernel)) rfl <|
  bb_istore (i := 4) (zd (i := .istore 4) (n := 2) (by decide +kernel)) (by decide +kernel) (wkNl_i rfl) <|
  bb_iload (i := 7) (zd (i := .iload 7) (n := 2) (by decide +kernel)) rfl <|
  bb_iload_n (n := 1) (i := 1) (zd (i := .iload_n 1) (n := 1) (by decide +kernel)) rfl rfl <|
  bb_lift (fun _ => q_isub (zd (i := .isub) (n := 1) (by decide +kernel))) <|
  bb_lift (fun _ => q_abs (idx := 247) (zd (i := .invokestatic 247) (n := 3) (by decide +kernel)) g943 g754 g111 g755 (Nat.le_of_ble_eq_true rfl) (Nat.le_refl _) (Nat.le_refl _)) <|
  bb_istore (i := 5) (zd (i := .istore 5) (n := 2) (by decide +kernel)) (by decide +kernel) (wkNl_i rfl) <|
  k
theorem w_X8_near_107 {Q : qQ} {I : qMI} {L : qML} {R : qMR} {a1 : Int32} {a2 : Int32} {a3 : Int32} {a4 : Int32} {a5 : Int32} {a6 : Int32} {a7 : Int32} (k : wkB l G (d + 1) n_X8_near Q 44 [.ref 0, .int a1, .int a2, .int a3, .int a4, .int a5, .int (a6 + 1), wkU] [] I L R) : wkB l G (d + 1) n_X8_near Q 107 [.ref 0, .int a1, .int a2, .int a3, .int a4, .int a5, .int a6, .int a7] [] I L R :=
  bb_iinc (i := 6) (n := 1) (zd (i := .iinc 6 (1)) (n := 3) (by decide +kernel)) rfl rfl (by decide +kernel) (wkNl_i rfl) <|
  bb_lift (fun _ => q_goto (off := -66) (tgt := 44) (zd (i := .goto (-66)) (n := 3) (by decide +kernel)) (by decide)) (wkB_le (vs := [.ref 0, .int a1, .int a2, .int a3, .int a4, .int a5, .int (a6 + 1), wkU]) (ws := [.ref 0, .int a1, .int a2, .int a3, .int a4, .int a5, .int (a6 + 1), .int a7]) ⟨Or.inr rfl, Or.inr rfl, Or.inr rfl, Or.inr rfl, Or.inr rfl, Or.inr rfl, Or.inr rfl, Or.inl rfl, trivial⟩ (k))
theorem w_X8_near_113 {Q : qQ} {I : qMI} {L : qML} {R : qMR} {a1 : Int32} {a2 : Int32} {a3 : Int32} {a4 : Int32} {a5 : Int32} {a6 : Int32} (kt : a2 = 0 → wkB l G (d + 1) n_X8_near Q 124 [.ref 0, .int a1, .int a2, .int a3, .int a4, .int a5, .int a6, wkU] [] I L R) (kf : ¬ a2 = 0 → wkB l G (d + 1) n_X8_near Q 117 [.ref 0, .int a1, .int a2, .int a3, .int a4, .int a5, .int a6, wkU] [] I L R) : wkB l G (d + 1) n_X8_near Q 113 [.ref 0, .int a1, .int a2, .int a3, .int a4, .int a5, .int a6, wkU] [] I L R :=
  bb_iload_n (n := 2) (i := 2) (zd (i := .iload_n 2) (n := 1) (by decide +kernel)) rfl rfl <|
  (fun lv hl => q_if_eq (off := 10) (tgt := 124) (zd (i := .ifCond .eq (10)) (n := 3) (by decide +kernel)) (by decide) (fun h => (kt h) lv hl) (fun h => (kf h) lv hl))
theorem w_X8_near_117 {Q : qQ} {I : qMI} {L : qML} {R : qMR} {a1 : Int32} {a2 : Int32} {a3 : Int32} {a4 : Int32} {a5 : Int32} {a6 : Int32} (kt : ¬ a4 = (-2) → wkB l G (d + 1) n_X8_near Q 129 [.ref 0, .int a1, .int a2, .int a3, .int a4, .int a5, .int a6, wkU] [] I L R) (kf : a4 = (-2) → wkB l G (d + 1) n_X8_near Q 124 [.ref 0, .int a1, .int a2, .int a3, .int a4, .int a5, .int a6, wkU] [] I L R) : wkB l G (d + 1) n_X8_near Q 117 [.ref 0, .int a1, .int a2, .int a3, .int a4, .int a5, .int a6, wkU] [] I L R :=
  bb_iload (i := 4) (zd (i := .iload 4) (n := 2) (by decide +kernel)) rfl <|
  bb_lift (fun _ => q_bipush (n := -2) (zd (i := .bipush (-2)) (n := 2) (by decide +kernel)) rfl) <|
  (fun lv hl => q_icmp_ne (off := 8) (tgt := 129) (zd (i := .if_icmp .ne (8)) (n := 3) (by decide +kernel)) (by decide) (fun h => (kt h) lv hl) (fun h => (kf h) lv hl))
theorem w_X8_near_124 {Q : qQ} {I : qMI} {L : qML} {R : qMR} {a1 : Int32} {a2 : Int32} {a3 : Int32} {a4 : Int32} {a5 : Int32} {a6 : Int32} (k : wkB l G (d + 1) n_X8_near Q 131 [.ref 0, .int a1, .int a2, .int a3, .int a4, .int a5, .int a6, wkU] [.int a4] I L R) : wkB l G (d + 1) n_X8_near Q 124 [.ref 0, .int a1, .int a2, .int a3, .int a4, .int a5, .int a6, wkU] [] I L R :=
  bb_iload (i := 4) (zd (i := .iload 4) (n := 2) (by decide +kernel)) rfl <|
  bb_lift (fun _ => q_goto (off := 5) (tgt := 131) (zd (i := .goto (5)) (n := 3) (by decide +kernel)) (by decide)) k
theorem w_X8_near_129 {Q : qQ} {I : qMI} {L : qML} {R : qMR} {a1 : Int32} {a2 : Int32} {a3 : Int32} {a4 : Int32} {a5 : Int32} {a6 : Int32} (k : wkB l G (d + 1) n_X8_near Q 131 [.ref 0, .int a1, .int a2, .int a3, .int a4, .int a5, .int a6, wkU] [.int a5] I L R) : wkB l G (d + 1) n_X8_near Q 129 [.ref 0, .int a1, .int a2, .int a3, .int a4, .int a5, .int a6, wkU] [] I L R :=
  bb_iload (i := 5) (zd (i := .iload 5) (n := 2) (by decide +kernel)) rfl <|
  k
theorem w_X8_near_131 {Q : qQ} {I : qMI} {L : qML} {R : qMR} {a1 : Int32} {a2 : Int32} {a3 : Int32} {a4 : Int32} {a5 : Int32} {a6 : Int32} {s0 : Int32} (hQ : Q (some (.int s0)) 336 I L R) : wkB l G (d + 1) n_X8_near Q 131 [.ref 0, .int a1, .int a2, .int a3, .int a4, .int a5, .int a6, wkU] [.int s0] I L R :=
  (fun lv hl => q_iret (zd (i := .ireturn) (n := 1) (by decide +kernel)) rfl rfl (Nat.le_refl _) (Nat.le_refl _) hQ)
theorem w_X8_crowd_0 {Q : qQ} {I : qMI} {L : qML} {R : qMR} {a1 : Int32} {P : Int32 → qMI → qML → qMR → Prop} (hc : wkCi l G d n_X8_isX [.int a1] I L R P) (kk : ∀ y I' L' R', P y I' L' R' → wkB l G (d + 1) n_X8_crowd Q 4 [.ref 0, .int a1, wkU, wkU, wkU, wkU] [.int y] I' L' R') : wkB l G (d + 1) n_X8_crowd Q 0 [.ref 0, .int a1, wkU, wkU, wkU, wkU] [] I L R :=
  bb_iload_n (n := 1) (i := 1) (zd (i := .iload_n 1) (n := 1) (by decide +kernel)) rfl rfl <|
  bb_callS (idx := 175) (N := n_X8_isX) (As := [.int a1]) (st := []) (zd (i := .invokestatic 175) (n := 3) (by decide +kernel)) to_X8_isX g805 g806 (Nat.le_of_ble_eq_true rfl) rfl rfl hc (fun r I' L' R' hq => by obtain ⟨y, rfl, hp⟩ := hq; exact kk y I' L' R' hp)
theorem w_X8_crowd_4 {Q : qQ} {I : qMI} {L : qML} {R : qMR} {a1 : Int32} {s0 : Int32} (kt : ¬ s0 = 0 → wkB l G (d + 1) n_X8_crowd Q 9 [.ref 0, .int a1, wkU, wkU, wkU, wkU] [] I L R) (kf : s0 = 0 → wkB l G (d + 1) n_X8_crowd Q 7 [.ref 0, .int a1, wkU, wkU, wkU, wkU] [] I L R) : wkB l G (d + 1) n_X8_crowd Q 4 [.ref 0, .int a1, wkU, wkU, wkU, wkU] [.int s0] I L R :=
  (fun lv hl => q_if_ne (off := 5) (tgt := 9) (zd (i := .ifCond .ne (5)) (n := 3) (by decide +kernel)) (by decide) (fun h => (kt h) lv hl) (fun h => (kf h) lv hl))
theorem w_X8_crowd_7 {Q : qQ} {I : qMI} {L : qML} {R : qMR} {a1 : Int32} (hQ : Q (some (.int (-1))) 336 I L R) : wkB l G (d + 1) n_X8_crowd Q 7 [.ref 0, .int a1, wkU, wkU, wkU, wkU] [] I L R :=
  bb_lift (fun _ => q_iconst (n := -1) (zd (i := .iconst (-1)) (n := 1) (by decide +kernel)) rfl) <|
  (fun lv hl => q_iret (zd (i := .ireturn) (n := 1) (by decide +kernel)) rfl rfl (Nat.le_refl _) (Nat.le_refl _) hQ)
theorem w_X8_crowd_9 {Q : qQ} {I : qMI} {L : qML} {R : qMR} {o : Nat} (ho : o = 9 ∨ o = 259) {a1 : Int32} (h1 : R 0 12 = some o) (h2 : R 0 2 = some 21) {P : Int32 → qMI → qML → qMR → Prop} (hc : wkCi l G d n_X0_heat [.ref o, .int (I 21 0)] I L R P) (kk : ∀ y I' L' R', P y I' L' R' → wkB l G (d + 1) n_X8_crowd Q 23 [.ref 0, .int a1, wkU, wkU, wkU, wkU] [.int y] I' L' R') : wkB l G (d + 1) n_X8_crowd Q 9 [.ref 0, .int a1, wkU, wkU, wkU, wkU] [] I L R :=
  bb_aload_n (n := 0) (i := 0) (zd (i := .aload_n 0) (n := 1) (by decide +kernel)) rfl rfl <|
  bb_getr (k := 0) (ci := 8) (j := 12) (idx := 71) (a := o) (zd (i := .getfield 71) (n := 3) (by decide +kernel)) (by decide +kernel) (by decide +kernel) (by decide +kernel) (by decide +kernel) rfl g464 h1 <|
  bb_aload_n (n := 0) (i := 0) (zd (i := .aload_n 0) (n := 1) (by decide +kernel)) rfl rfl <|
  bb_getr (k := 0) (ci := 8) (j := 2) (idx := 26) (a := 21) (zd (i := .getfield 26) (n := 3) (by decide +kernel)) (by decide +kernel) (by decide +kernel) (by decide +kernel) (by decide +kernel) rfl g454 h2 <|
  bb_geti (k := 21) (ci := 4) (j := 0) (idx := 140) (zd (i := .getfield 140) (n := 3) (by decide +kernel)) (by decide +kernel) (by decide +kernel) (by decide +kernel) (by decide +kernel) rfl g368 <|
  bb_callV (idx := 143) (k := o) (ci := 0) (N := n_X0_heat) (As := [.int (I 21 0)]) (st := []) (zd (i := .invokevirtual 143) (n := 3) (by decide +kernel)) to_X0_heat g716 g717 g718 (Nat.le_of_ble_eq_true rfl) (by rcases ho with rfl | rfl <;> decide +kernel) (by rcases ho with rfl | rfl <;> decide +kernel) (by decide +kernel) rfl rfl rfl hc (fun r I' L' R' hq => by obtain ⟨y, rfl, hp⟩ := hq; exact kk y I' L' R' hp)
theorem w_X8_crowd_23 {Q : qQ} {I : qMI} {L : qML} {R : qMR} {a1 : Int32} {s0 : Int32} (k : wkB l G (d + 1) n_X8_crowd Q 29 [.ref 0, .int a1, .int s0, .int 0, .int 0, wkU] [] I L R) : wkB l G (d + 1) n_X8_crowd Q 23 [.ref 0, .int a1, wkU, wkU, wkU, wkU] [.int s0] I L R :=
  bb_istore_n (n := 2) (i := 2) (zd (i := .istore_n 2) (n := 1) (by decide +kernel)) rfl (by decide +kernel) (wkNl_i rfl) <|
  bb_lift (fun _ => q_iconst (n := 0) (zd (i := .iconst (0)) (n := 1) (by decide +kernel)) rfl) <|
  bb_istore_n (n := 3) (i := 3) (zd (i := .istore_n 3) (n := 1) (by decide +kernel)) rfl (by decide +kernel) (wkNl_i rfl) <|
  bb_lift (fun _ => q_iconst (n := 0) (zd (i := .iconst (0)) (n := 1) (by decide +kernel)) rfl) <|
  bb_istore (i := 4) (zd (i := .istore 4) (n := 2) (by decide +kernel)) (by decide +kernel) (wkNl_i rfl) <|
  k
theorem w_X8_crowd_29 {Q : qQ} {I : qMI} {L : qML} {R : qMR} {o : Nat} (ho : o = 9 ∨ o = 259) {a1 : Int32} {a2 : Int32} {a3 : Int32} {a4 : Int32} (h1 : R 0 12 = some o) (kt : (I o 5) ≤ a4 → wkB l G (d + 1) n_X8_crowd Q 106 [.ref 0, .int a1, .int a2, .int a3, .int a4, wkU] [] I L R) (kf : ¬ (I o 5) ≤ a4 → wkB l G (d + 1) n_X8_crowd Q 41 [.ref 0, .int a1, .int a2, .int a3, .int a4, wkU] [] I L R) : wkB l G (d + 1) n_X8_crowd Q 29 [.ref 0, .int a1, .int a2, .int a3, .int a4, wkU] [] I L R :=
  bb_iload (i := 4) (zd (i := .iload 4) (n := 2) (by decide +kernel)) rfl <|
  bb_aload_n (n := 0) (i := 0) (zd (i := .aload_n 0) (n := 1) (by decide +kernel)) rfl rfl <|
  bb_getr (k := 0) (ci := 8) (j := 12) (idx := 71) (a := o) (zd (i := .getfield 71) (n := 3) (by decide +kernel)) (by decide +kernel) (by decide +kernel) (by decide +kernel) (by decide +kernel) rfl g464 h1 <|
  bb_geti (k := o) (ci := 0) (j := 5) (idx := 230) (zd (i := .getfield 230) (n := 3) (by decide +kernel)) (by rcases ho with rfl | rfl <;> decide +kernel) (by rcases ho with rfl | rfl <;> decide +kernel) (by decide +kernel) (by decide +kernel) rfl g288 <|
  (fun lv hl => q_icmp_ge (off := 68) (tgt := 106) (zd (i := .if_icmp .ge (68)) (n := 3) (by decide +kernel)) (by decide) (fun h => (kt h) lv hl) (fun h => (kf h) lv hl))
theorem w_X8_crowd_41 {Q : qQ} {I : qMI} {L : qML} {R : qMR} {a1 : Int32} {a2 : Int32} {a3 : Int32} {a4 : Int32} (k : wkB l G (d + 1) n_X8_crowd Q 44 [.ref 0, .int a1, .int a2, .int a3, .int a4, .int 0] [] I L R) : wkB l G (d + 1) n_X8_crowd Q 41 [.ref 0, .int a1, .int a2, .int a3, .int a4, wkU] [] I L R :=
  bb_lift (fun _ => q_iconst (n := 0) (zd (i := .iconst (0)) (n := 1) (by decide +kernel)) rfl) <|
  bb_istore (i := 5) (zd (i := .istore 5) (n := 2) (by decide +kernel)) (by decide +kernel) (wkNl_i rfl) <|
  k
theorem w_X8_crowd_44 {Q : qQ} {I : qMI} {L : qML} {R : qMR} {o : Nat} (ho : o = 9 ∨ o = 259) {a1 : Int32} {a2 : Int32} {a3 : Int32} {a4 : Int32} {a5 : Int32} (h1 : R 0 12 = some o) (kt : (I o 2) ≤ a5 → wkB l G (d + 1) n_X8_crowd Q 100 [.ref 0, .int a1, .int a2, .int a3, .int a4, .int a5] [] I L R) (kf : ¬ (I o 2) ≤ a5 → wkB l G (d + 1) n_X8_crowd Q 56 [.ref 0, .int a1, .int a2, .int a3, .int a4, .int a5] [] I L R) : wkB l G (d + 1) n_X8_crowd Q 44 [.ref 0, .int a1, .int a2, .int a3, .int a4, .int a5] [] I L R :=
  bb_iload (i := 5) (zd (i := .iload 5) (n := 2) (by decide +kernel)) rfl <|
  bb_aload_n (n := 0) (i := 0) (zd (i := .aload_n 0) (n := 1) (by decide +kernel)) rfl rfl <|
  bb_getr (k := 0) (ci := 8) (j := 12) (idx := 71) (a := o) (zd (i := .getfield 71) (n := 3) (by decide +kernel)) (by decide +kernel) (by decide +kernel) (by decide +kernel) (by decide +kernel) rfl g464 h1 <|
  bb_geti (k := o) (ci := 0) (j := 2) (idx := 236) (zd (i := .getfield 236) (n := 3) (by decide +kernel)) (by rcases ho with rfl | rfl <;> decide +kernel) (by rcases ho with rfl | rfl <;> decide +kernel) (by decide +kernel) (by decide +kernel) rfl g280 <|
  (fun lv hl => q_icmp_ge (off := 47) (tgt := 100) (zd (i := .if_icmp .ge (47)) (n := 3) (by decide +kernel)) (by decide) (fun h => (kt h) lv hl) (fun h => (kf h) lv hl))
theorem w_X8_crowd_56 {Q : qQ} {I : qMI} {L : qML} {R : qMR} {o : Nat} (ho : o = 9 ∨ o = 259) {a1 : Int32} {a2 : Int32} {a3 : Int32} {a4 : Int32} {a5 : Int32} (h1 : R 0 12 = some o) (h2 : R 0 2 = some 21) (h3 : R 21 1 = some 22) (h4 : vp_in a4 6) (h5 : R 0 2 = some 21) {P : Int32 → qMI → qML → qMR → Prop} (hc : wkCi l G d n_X0_spotFrom [.ref o, .int (I 22 a4.toNatClampNeg), .int a5, .int (I 21 0), .int a2] I L R P) (kk : ∀ y I' L' R', P y I' L' R' → wkB l G (d + 1) n_X8_crowd Q 83 [.ref 0, .int a1, .int a2, .int a3, .int a4, .int a5] [.int y] I' L' R') : wkB l G (d + 1) n_X8_crowd Q 56 [.ref 0, .int a1, .int a2, .int a3, .int a4, .int a5] [] I L R :=
  bb_aload_n (n := 0) (i := 0) (zd (i := .aload_n 0) (n := 1) (by decide +kernel)) rfl rfl <|
  bb_getr (k := 0) (ci := 8) (j := 12) (idx := 71) (a := o) (zd (i := .getfield 71) (n := 3) (by decide +kernel)) (by decide +kernel) (by decide +kernel) (by decide +kernel) (by decide +kernel) rfl g464 h1 <|
  bb_aload_n (n := 0) (i := 0) (zd (i := .aload_n 0) (n := 1) (by decide +kernel)) rfl rfl <|
  bb_getr (k := 0) (ci := 8) (j := 2) (idx := 26) (a := 21) (zd (i := .getfield 26) (n := 3) (by decide +kernel)) (by decide +kernel) (by decide +kernel) (by decide +kernel) (by decide +kernel) rfl g454 h2 <|
  bb_getr (k := 21) (ci := 4) (j := 1) (idx := 134) (a := 22) (zd (i := .getfield 134) (n := 3) (by decide +kernel)) (by decide +kernel) (by decide +kernel) (by decide +kernel) (by decide +kernel) rfl g371 h3 <|
  bb_iload (i := 4) (zd (i := .iload 4) (n := 2) (by decide +kernel)) rfl <|
  bb_lift (fun _ => q_iald (k := 22) (zd (i := .iaload) (n := 1) (by decide +kernel)) (by decide +kernel) (by decide +kernel) h4) <|
  bb_iload (i := 5) (zd (i := .iload 5) (n := 2) (by decide +kernel)) rfl <|
  bb_aload_n (n := 0) (i := 0) (zd (i := .aload_n 0) (n := 1) (by decide +kernel)) rfl rfl <|
  bb_getr (k := 0) (ci := 8) (j := 2) (idx := 26) (a := 21) (zd (i := .getfield 26) (n := 3) (by decide +kernel)) (by decide +kernel) (by decide +kernel) (by decide +kernel) (by decide +kernel) rfl g454 h5 <|
  bb_geti (k := 21) (ci := 4) (j := 0) (idx := 140) (zd (i := .getfield 140) (n := 3) (by decide +kernel)) (by decide +kernel) (by decide +kernel) (by decide +kernel) (by decide +kernel) rfl g368 <|
  bb_iload_n (n := 2) (i := 2) (zd (i := .iload_n 2) (n := 1) (by decide +kernel)) rfl rfl <|
  bb_callV (idx := 224) (k := o) (ci := 0) (N := n_X0_spotFrom) (As := [.int (I 22 a4.toNatClampNeg), .int a5, .int (I 21 0), .int a2]) (st := []) (zd (i := .invokevirtual 224) (n := 3) (by decide +kernel)) to_X0_spotFrom g901 g902 g903 (Nat.le_of_ble_eq_true rfl) (by rcases ho with rfl | rfl <;> decide +kernel) (by rcases ho with rfl | rfl <;> decide +kernel) (by decide +kernel) rfl rfl rfl hc (fun r I' L' R' hq => by obtain ⟨y, rfl, hp⟩ := hq; exact kk y I' L' R' hp)
theorem w_X8_crowd_83 {Q : qQ} {I : qMI} {L : qML} {R : qMR} {a1 : Int32} {a2 : Int32} {a3 : Int32} {a4 : Int32} {a5 : Int32} {s0 : Int32} (kt : ¬ s0 = a1 → wkB l G (d + 1) n_X8_crowd Q 94 [.ref 0, .int a1, .int a2, .int a3, .int a4, .int a5] [] I L R) (kf : s0 = a1 → wkB l G (d + 1) n_X8_crowd Q 87 [.ref 0, .int a1, .int a2, .int a3, .int a4, .int a5] [] I L R) : wkB l G (d + 1) n_X8_crowd Q 83 [.ref 0, .int a1, .int a2, .int a3, .int a4, .int a5] [.int s0] I L R :=
  bb_iload_n (n := 1) (i := 1) (zd (i := .iload_n 1) (n := 1) (by decide +kernel)) rfl rfl <|
  (fun lv hl => q_icmp_ne (off := 10) (tgt := 94) (zd (i := .if_icmp .ne (10)) (n := 3) (by decide +kernel)) (by decide) (fun h => (kt h) lv hl) (fun h => (kf h) lv hl))
theorem w_X8_crowd_87 {Q : qQ} {I : qMI} {L : qML} {R : qMR} {a1 : Int32} {a2 : Int32} {a3 : Int32} {a4 : Int32} {a5 : Int32} (k : wkB l G (d + 1) n_X8_crowd Q 94 [.ref 0, .int a1, .int a2, .int (a3 ||| (1 <<< (a5 &&& 31))), .int a4, .int a5] [] I L R) : wkB l G (d + 1) n_X8_crowd Q 87 [.ref 0, .int a1, .int a2, .int a3, .int a4, .int a5] [] I L R :=
  bb_iload_n (n := 3) (i := 3) (zd (i := .iload_n 3) (n := 1) (by decide +kernel)) rfl rfl <|
  bb_lift (fun _ => q_iconst (n := 1) (zd (i := .iconst (1)) (n := 1) (by decide +kernel)) rfl) <|
  bb_iload (i := 5) (zd (i := .iload 5) (n := 2) (by decide +kernel)) rfl <|
  bb_lift (fun _ => q_ishl (zd (i := .ishl) (n := 1) (by decide +kernel))) <|
  bb_lift (fun _ => q_ior (zd (i := .ior) (n := 1) (by decide +kernel))) <|
  bb_istore_n (n := 3) (i := 3) (zd (i := .istore_n 3) (n := 1) (by decide +kernel)) rfl (by decide +kernel) (wkNl_i rfl) <|
  k
theorem w_X8_crowd_94 {Q : qQ} {I : qMI} {L : qML} {R : qMR} {a1 : Int32} {a2 : Int32} {a3 : Int32} {a4 : Int32} {a5 : Int32} (k : wkB l G (d + 1) n_X8_crowd Q 44 [.ref 0, .int a1, .int a2, .int a3, .int a4, .int (a5 + 1)] [] I L R) : wkB l G (d + 1) n_X8_crowd Q 94 [.ref 0, .int a1, .int a2, .int a3, .int a4, .int a5] [] I L R :=
  bb_iinc (i := 5) (n := 1) (zd (i := .iinc 5 (1)) (n := 3) (by decide +kernel)) rfl rfl (by decide +kernel) (wkNl_i rfl) <|
  bb_lift (fun _ => q_goto (off := -53) (tgt := 44) (zd (i := .goto (-53)) (n := 3) (by decide +kernel)) (by decide)) k
theorem w_X8_crowd_100 {Q : qQ} {I : qMI} {L : qML} {R : qMR} {a1 : Int32} {a2 : Int32} {a3 : Int32} {a4 : Int32} {a5 : Int32} (k : wkB l G (d + 1) n_X8_crowd Q 29 [.ref 0, .int a1, .int a2, .int a3, .int (a4 + 1), wkU] [] I L R) : wkB l G (d + 1) n_X8_crowd Q 100 [.ref 0, .int a1, .int a2, .int a3, .int a4, .int a5] [] I L R :=
  bb_iinc (i := 4) (n := 1) (zd (i := .iinc 4 (1)) (n := 3) (by decide +kernel)) rfl rfl (by decide +kernel) (wkNl_i rfl) <|
  bb_lift (fun _ => q_goto (off := -74) (tgt := 29) (zd (i := .goto (-74)) (n := 3) (by decide +kernel)) (by decide)) (wkB_le (vs := [.ref 0, .int a1, .int a2, .int a3, .int (a4 + 1), wkU]) (ws := [.ref 0, .int a1, .int a2, .int a3, .int (a4 + 1), .int a5]) ⟨Or.inr rfl, Or.inr rfl, Or.inr rfl, Or.inr rfl, Or.inr rfl, Or.inl rfl, trivial⟩ (k))
theorem w_X8_crowd_106 {Q : qQ} {I : qMI} {L : qML} {R : qMR} {a1 : Int32} {a2 : Int32} {a3 : Int32} {a4 : Int32} (hQ : Q (some (.int a3)) 336 I L R) : wkB l G (d + 1) n_X8_crowd Q 106 [.ref 0, .int a1, .int a2, .int a3, .int a4, wkU] [] I L R :=
  bb_iload_n (n := 3) (i := 3) (zd (i := .iload_n 3) (n := 1) (by decide +kernel)) rfl rfl <|
  (fun lv hl => q_iret (zd (i := .ireturn) (n := 1) (by decide +kernel)) rfl rfl (Nat.le_refl _) (Nat.le_refl _) hQ)
theorem w_X8_rich_0 {Q : qQ} {I : qMI} {L : qML} {R : qMR} {a1 : Int32} {a2 : Int32} {P : Int32 → qMI → qML → qMR → Prop} (hc : wkCi l G d n_X8_isAhead [.int a1] I L R P) (kk : ∀ y I' L' R', P y I' L' R' → wkB l G (d + 1) n_X8_rich Q 4 [.ref 0, .int a1, .int a2, wkU, wkU] [.int y] I' L' R') : wkB l G (d + 1) n_X8_rich Q 0 [.ref 0, .int a1, .int a2, wkU, wkU] [] I L R :=
  bb_iload_n (n := 1) (i := 1) (zd (i := .iload_n 1) (n := 1) (by decide +kernel)) rfl rfl <|
  bb_callS (idx := 207) (N := n_X8_isAhead) (As := [.int a1]) (st := []) (zd (i := .invokestatic 207) (n := 3) (by decide +kernel)) to_X8_isAhead g862 g863 (Nat.le_of_ble_eq_true rfl) rfl rfl hc (fun r I' L' R' hq => by obtain ⟨y, rfl, hp⟩ := hq; exact kk y I' L' R' hp)
theorem w_X8_rich_4 {Q : qQ} {I : qMI} {L : qML} {R : qMR} {a1 : Int32} {a2 : Int32} {s0 : Int32} (kt : s0 = 0 → wkB l G (d + 1) n_X8_rich Q 16 [.ref 0, .int a1, .int a2, wkU, wkU] [] I L R) (kf : ¬ s0 = 0 → wkB l G (d + 1) n_X8_rich Q 7 [.ref 0, .int a1, .int a2, wkU, wkU] [] I L R) : wkB l G (d + 1) n_X8_rich Q 4 [.ref 0, .int a1, .int a2, wkU, wkU] [.int s0] I L R :=
  (fun lv hl => q_if_eq (off := 12) (tgt := 16) (zd (i := .ifCond .eq (12)) (n := 3) (by decide +kernel)) (by decide) (fun h => (kt h) lv hl) (fun h => (kf h) lv hl))
theorem w_X8_rich_7 {Q : qQ} {I : qMI} {L : qML} {R : qMR} {a1 : Int32} {a2 : Int32} (kt : a2 < 0 → wkB l G (d + 1) n_X8_rich Q 16 [.ref 0, .int a1, .int a2, wkU, wkU] [] I L R) (kf : ¬ a2 < 0 → wkB l G (d + 1) n_X8_rich Q 11 [.ref 0, .int a1, .int a2, wkU, wkU] [] I L R) : wkB l G (d + 1) n_X8_rich Q 7 [.ref 0, .int a1, .int a2, wkU, wkU] [] I L R :=
  bb_iload_n (n := 2) (i := 2) (zd (i := .iload_n 2) (n := 1) (by decide +kernel)) rfl rfl <|
  (fun lv hl => q_if_lt (off := 8) (tgt := 16) (zd (i := .ifCond .lt (8)) (n := 3) (by decide +kernel)) (by decide) (fun h => (kt h) lv hl) (fun h => (kf h) lv hl))
theorem w_X8_rich_11 {Q : qQ} {I : qMI} {L : qML} {R : qMR} {a1 : Int32} {a2 : Int32} (kt : a2 ≤ 1 → wkB l G (d + 1) n_X8_rich Q 18 [.ref 0, .int a1, .int a2, wkU, wkU] [] I L R) (kf : ¬ a2 ≤ 1 → wkB l G (d + 1) n_X8_rich Q 16 [.ref 0, .int a1, .int a2, wkU, wkU] [] I L R) : wkB l G (d + 1) n_X8_rich Q 11 [.ref 0, .int a1, .int a2, wkU, wkU] [] I L R :=
  bb_iload_n (n := 2) (i := 2) (zd (i := .iload_n 2) (n := 1) (by decide +kernel)) rfl rfl <|
  bb_lift (fun _ => q_iconst (n := 1) (zd (i := .iconst (1)) (n := 1) (by decide +kernel)) rfl) <|
  (fun lv hl => q_icmp_le (off := 5) (tgt := 18) (zd (i := .if_icmp .le (5)) (n := 3) (by decide +kernel)) (by decide) (fun h => (kt h) lv hl) (fun h => (kf h) lv hl))
theorem w_X8_rich_16 {Q : qQ} {I : qMI} {L : qML} {R : qMR} {a1 : Int32} {a2 : Int32} (hQ : Q (some (.int (-1))) 336 I L R) : wkB l G (d + 1) n_X8_rich Q 16 [.ref 0, .int a1, .int a2, wkU, wkU] [] I L R :=
  bb_lift (fun _ => q_iconst (n := -1) (zd (i := .iconst (-1)) (n := 1) (by decide +kernel)) rfl) <|
  (fun lv hl => q_iret (zd (i := .ireturn) (n := 1) (by decide +kernel)) rfl rfl (Nat.le_refl _) (Nat.le_refl _) hQ)
theorem w_X8_rich_18 {Q : qQ} {I : qMI} {L : qML} {R : qMR} {o : Nat} (ho : o = 9 ∨ o = 259) {a1 : Int32} {a2 : Int32} (h1 : R 0 12 = some o) (kt : ¬ (I o 5) = 0 → wkB l G (d + 1) n_X8_rich Q 31 [.ref 0, .int a1, .int a2, wkU, wkU] [] I L R) (kf : (I o 5) = 0 → wkB l G (d + 1) n_X8_rich Q 28 [.ref 0, .int a1, .int a2, wkU, wkU] [] I L R) : wkB l G (d + 1) n_X8_rich Q 18 [.ref 0, .int a1, .int a2, wkU, wkU] [] I L R :=
  bb_aload_n (n := 0) (i := 0) (zd (i := .aload_n 0) (n := 1) (by decide +kernel)) rfl rfl <|
  bb_getr (k := 0) (ci := 8) (j := 12) (idx := 71) (a := o) (zd (i := .getfield 71) (n := 3) (by decide +kernel)) (by decide +kernel) (by decide +kernel) (by decide +kernel) (by decide +kernel) rfl g464 h1 <|
  bb_geti (k := o) (ci := 0) (j := 5) (idx := 230) (zd (i := .getfield 230) (n := 3) (by decide +kernel)) (by rcases ho with rfl | rfl <;> decide +kernel) (by rcases ho with rfl | rfl <;> decide +kernel) (by decide +kernel) (by decide +kernel) rfl g288 <|
  (fun lv hl => q_if_ne (off := 6) (tgt := 31) (zd (i := .ifCond .ne (6)) (n := 3) (by decide +kernel)) (by decide) (fun h => (kt h) lv hl) (fun h => (kf h) lv hl))
theorem w_X8_rich_28 {Q : qQ} {I : qMI} {L : qML} {R : qMR} {a1 : Int32} {a2 : Int32} (hQ : Q (some (.int (-2))) 336 I L R) : wkB l G (d + 1) n_X8_rich Q 28 [.ref 0, .int a1, .int a2, wkU, wkU] [] I L R :=
  bb_lift (fun _ => q_bipush (n := -2) (zd (i := .bipush (-2)) (n := 2) (by decide +kernel)) rfl) <|
  (fun lv hl => q_iret (zd (i := .ireturn) (n := 1) (by decide +kernel)) rfl rfl (Nat.le_refl _) (Nat.le_refl _) hQ)
theorem w_X8_rich_31 {Q : qQ} {I : qMI} {L : qML} {R : qMR} {a1 : Int32} {a2 : Int32} {P : qMI → qML → qMR → Prop} (hc : wkCv l G d n_X8_goAhead [.ref 0, .int a1] I L R P) (kk : ∀ I' L' R', P I' L' R' → wkB l G (d + 1) n_X8_rich Q 36 [.ref 0, .int a1, .int a2, wkU, wkU] [] I' L' R') : wkB l G (d + 1) n_X8_rich Q 31 [.ref 0, .int a1, .int a2, wkU, wkU] [] I L R :=
  bb_aload_n (n := 0) (i := 0) (zd (i := .aload_n 0) (n := 1) (by decide +kernel)) rfl rfl <|
  bb_iload_n (n := 1) (i := 1) (zd (i := .iload_n 1) (n := 1) (by decide +kernel)) rfl rfl <|
  bb_callV (idx := 252) (k := 0) (ci := 8) (N := n_X8_goAhead) (As := [.int a1]) (st := []) (zd (i := .invokevirtual 252) (n := 3) (by decide +kernel)) to_X8_goAhead g952 g954 g32 (Nat.le_of_ble_eq_true rfl) (by decide +kernel) (by decide +kernel) (by decide +kernel) rfl rfl rfl hc (fun r I' L' R' hq => by obtain ⟨rfl, hp⟩ := hq; exact kk I' L' R' hp)
theorem w_X8_rich_36 {Q : qQ} {I : qMI} {L : qML} {R : qMR} {a1 : Int32} {a2 : Int32} (k : wkB l G (d + 1) n_X8_rich Q 41 [.ref 0, .int a1, .int a2, .int 0, .int 1] [] I L R) : wkB l G (d + 1) n_X8_rich Q 36 [.ref 0, .int a1, .int a2, wkU, wkU] [] I L R :=
  bb_lift (fun _ => q_iconst (n := 0) (zd (i := .iconst (0)) (n := 1) (by decide +kernel)) rfl) <|
  bb_istore_n (n := 3) (i := 3) (zd (i := .istore_n 3) (n := 1) (by decide +kernel)) rfl (by decide +kernel) (wkNl_i rfl) <|
  bb_lift (fun _ => q_iconst (n := 1) (zd (i := .iconst (1)) (n := 1) (by decide +kernel)) rfl) <|
  bb_istore (i := 4) (zd (i := .istore 4) (n := 2) (by decide +kernel)) (by decide +kernel) (wkNl_i rfl) <|
  k
theorem w_X8_rich_41 {Q : qQ} {I : qMI} {L : qML} {R : qMR} {o : Nat} (ho : o = 9 ∨ o = 259) {a1 : Int32} {a2 : Int32} {a3 : Int32} {a4 : Int32} (h1 : R 0 12 = some o) (kt : (I o 5) ≤ a4 → wkB l G (d + 1) n_X8_rich Q 82 [.ref 0, .int a1, .int a2, .int a3, .int a4] [] I L R) (kf : ¬ (I o 5) ≤ a4 → wkB l G (d + 1) n_X8_rich Q 53 [.ref 0, .int a1, .int a2, .int a3, .int a4] [] I L R) : wkB l G (d + 1) n_X8_rich Q 41 [.ref 0, .int a1, .int a2, .int a3, .int a4] [] I L R :=
  bb_iload (i := 4) (zd (i := .iload 4) (n := 2) (by decide +kernel)) rfl <|
  bb_aload_n (n := 0) (i := 0) (zd (i := .aload_n 0) (n := 1) (by decide +kernel)) rfl rfl <|
  bb_getr (k := 0) (ci := 8) (j := 12) (idx := 71) (a := o) (zd (i := .getfield 71) (n := 3) (by decide +kernel)) (by decide +kernel) (by decide +kernel) (by decide +kernel) (by decide +kernel) rfl g464 h1 <|
  bb_geti (k := o) (ci := 0) (j := 5) (idx := 230) (zd (i := .getfield 230) (n := 3) (by decide +kernel)) (by rcases ho with rfl | rfl <;> decide +kernel) (by rcases ho with rfl | rfl <;> decide +kernel) (by decide +kernel) (by decide +kernel) rfl g288 <|
  (fun lv hl => q_icmp_ge (off := 32) (tgt := 82) (zd (i := .if_icmp .ge (32)) (n := 3) (by decide +kernel)) (by decide) (fun h => (kt h) lv hl) (fun h => (kf h) lv hl))
theorem w_X8_rich_53 {Q : qQ} {I : qMI} {L : qML} {R : qMR} {a1 : Int32} {a2 : Int32} {a3 : Int32} {a4 : Int32} (h1 : R 0 3 = some 28) {P : Int32 → qMI → qML → qMR → Prop} (hc : wkCi l G d n_X4_wealth [.ref 28, .int a4] I L R P) (kk : ∀ y I' L' R', P y I' L' R' → wkB l G (d + 1) n_X8_rich Q 62 [.ref 0, .int a1, .int a2, .int a3, .int a4] [.int y] I' L' R') : wkB l G (d + 1) n_X8_rich Q 53 [.ref 0, .int a1, .int a2, .int a3, .int a4] [] I L R :=
  bb_aload_n (n := 0) (i := 0) (zd (i := .aload_n 0) (n := 1) (by decide +kernel)) rfl rfl <|
  bb_getr (k := 0) (ci := 8) (j := 3) (idx := 30) (a := 28) (zd (i := .getfield 30) (n := 3) (by decide +kernel)) (by decide +kernel) (by decide +kernel) (by decide +kernel) (by decide +kernel) rfl g455 h1 <|
  bb_iload (i := 4) (zd (i := .iload 4) (n := 2) (by decide +kernel)) rfl <|
  bb_callV (idx := 255) (k := 28) (ci := 4) (N := n_X4_wealth) (As := [.int a4]) (st := []) (zd (i := .invokevirtual 255) (n := 3) (by decide +kernel)) to_X4_wealth g957 g958 g959 (Nat.le_of_ble_eq_true rfl) (by decide +kernel) (by decide +kernel) (by decide +kernel) rfl rfl rfl hc (fun r I' L' R' hq => by obtain ⟨y, rfl, hp⟩ := hq; exact kk y I' L' R' hp)
theorem w_X8_rich_62 {Q : qQ} {I : qMI} {L : qML} {R : qMR} {a1 : Int32} {a2 : Int32} {a3 : Int32} {a4 : Int32} {s0 : Int32} (h1 : R 0 3 = some 28) {P : Int32 → qMI → qML → qMR → Prop} (hc : wkCi l G d n_X4_wealth [.ref 28, .int a3] I L R P) (kk : ∀ y I' L' R', P y I' L' R' → wkB l G (d + 1) n_X8_rich Q 70 [.ref 0, .int a1, .int a2, .int a3, .int a4] [.int y, .int s0] I' L' R') : wkB l G (d + 1) n_X8_rich Q 62 [.ref 0, .int a1, .int a2, .int a3, .int a4] [.int s0] I L R :=
  bb_aload_n (n := 0) (i := 0) (zd (i := .aload_n 0) (n := 1) (by decide +kernel)) rfl rfl <|
  bb_getr (k := 0) (ci := 8) (j := 3) (idx := 30) (a := 28) (zd (i := .getfield 30) (n := 3) (by decide +kernel)) (by decide +kernel) (by decide +kernel) (by decide +kernel) (by decide +kernel) rfl g455 h1 <|
  bb_iload_n (n := 3) (i := 3) (zd (i := .iload_n 3) (n := 1) (by decide +kernel)) rfl rfl <|
  bb_callV (idx := 255) (k := 28) (ci := 4) (N := n_X4_wealth) (As := [.int a3]) (st := [.int s0]) (zd (i := .invokevirtual 255) (n := 3) (by decide +kernel)) to_X4_wealth g957 g958 g959 (Nat.le_of_ble_eq_true rfl) (by decide +kernel) (by decide +kernel) (by decide +kernel) rfl rfl rfl hc (fun r I' L' R' hq => by obtain ⟨y, rfl, hp⟩ := hq; exact kk y I' L' R' hp)
theorem w_X8_rich_70 {Q : qQ} {I : qMI} {L : qML} {R : qMR} {a1 : Int32} {a2 : Int32} {a3 : Int32} {a4 : Int32} {s0 : Int32} {s1 : Int32} (kt : s0 ≤ s1 → wkB l G (d + 1) n_X8_rich Q 76 [.ref 0, .int a1, .int a2, .int a3, .int a4] [] I L R) (kf : ¬ s0 ≤ s1 → wkB l G (d + 1) n_X8_rich Q 73 [.ref 0, .int a1, .int a2, .int a3, .int a4] [] I L R) : wkB l G (d + 1) n_X8_rich Q 70 [.ref 0, .int a1, .int a2, .int a3, .int a4] [.int s1, .int s0] I L R :=
  (fun lv hl => q_icmp_le (off := 6) (tgt := 76) (zd (i := .if_icmp .le (6)) (n := 3) (by decide +kernel)) (by decide) (fun h => (kt h) lv hl) (fun h => (kf h) lv hl))
theorem w_X8_rich_73 {Q : qQ} {I : qMI} {L : qML} {R : qMR} {a1 : Int32} {a2 : Int32} {a3 : Int32} {a4 : Int32} (k : wkB l G (d + 1) n_X8_rich Q 76 [.ref 0, .int a1, .int a2, .int a4, .int a4] [] I L R) : wkB l G (d + 1) n_X8_rich Q 73 [.ref 0, .int a1, .int a2, .int a3, .int a4] [] I L R :=
  bb_iload (i := 4) (zd (i := .iload 4) (n := 2) (by decide +kernel)) rfl <|
  bb_istore_n (n := 3) (i := 3) (zd (i := .istore_n 3) (n := 1) (by decide +kernel)) rfl (by decide +kernel) (wkNl_i rfl) <|
  k
theorem w_X8_rich_76 {Q : qQ} {I : qMI} {L : qML} {R : qMR} {a1 : Int32} {a2 : Int32} {a3 : Int32} {a4 : Int32} (k : wkB l G (d + 1) n_X8_rich Q 41 [.ref 0, .int a1, .int a2, .int a3, .int (a4 + 1)] [] I L R) : wkB l G (d + 1) n_X8_rich Q 76 [.ref 0, .int a1, .int a2, .int a3, .int a4] [] I L R :=
  bb_iinc (i := 4) (n := 1) (zd (i := .iinc 4 (1)) (n := 3) (by decide +kernel)) rfl rfl (by decide +kernel) (wkNl_i rfl) <|
  bb_lift (fun _ => q_goto (off := -38) (tgt := 41) (zd (i := .goto (-38)) (n := 3) (by decide +kernel)) (by decide)) k
theorem w_X8_rich_82 {Q : qQ} {I : qMI} {L : qML} {R : qMR} {a1 : Int32} {a2 : Int32} {a3 : Int32} {a4 : Int32} (kt : ¬ a2 = 0 → wkB l G (d + 1) n_X8_rich Q 90 [.ref 0, .int a1, .int a2, .int a3, .int a4] [] I L R) (kf : a2 = 0 → wkB l G (d + 1) n_X8_rich Q 86 [.ref 0, .int a1, .int a2, .int a3, .int a4] [] I L R) : wkB l G (d + 1) n_X8_rich Q 82 [.ref 0, .int a1, .int a2, .int a3, .int a4] [] I L R :=
  bb_iload_n (n := 2) (i := 2) (zd (i := .iload_n 2) (n := 1) (by decide +kernel)) rfl rfl <|
  (fun lv hl => q_if_ne (off := 7) (tgt := 90) (zd (i := .ifCond .ne (7)) (n := 3) (by decide +kernel)) (by decide) (fun h => (kt h) lv hl) (fun h => (kf h) lv hl))
theorem w_X8_rich_86 {Q : qQ} {I : qMI} {L : qML} {R : qMR} {a1 : Int32} {a2 : Int32} {a3 : Int32} {a4 : Int32} (k : wkB l G (d + 1) n_X8_rich Q 98 [.ref 0, .int a1, .int a2, .int a3, .int a4] [.int a3] I L R) : wkB l G (d + 1) n_X8_rich Q 86 [.ref 0, .int a1, .int a2, .int a3, .int a4] [] I L R :=
  bb_iload_n (n := 3) (i := 3) (zd (i := .iload_n 3) (n := 1) (by decide +kernel)) rfl rfl <|
  bb_lift (fun _ => q_goto (off := 11) (tgt := 98) (zd (i := .goto (11)) (n := 3) (by decide +kernel)) (by decide)) k
theorem w_X8_rich_90 {Q : qQ} {I : qMI} {L : qML} {R : qMR} {a1 : Int32} {a2 : Int32} {a3 : Int32} {a4 : Int32} (h1 : R 0 3 = some 28) {P : Int32 → qMI → qML → qMR → Prop} (hc : wkCi l G d n_X4_wealth [.ref 28, .int a3] I L R P) (kk : ∀ y I' L' R', P y I' L' R' → wkB l G (d + 1) n_X8_rich Q 98 [.ref 0, .int a1, .int a2, .int a3, .int a4] [.int y] I' L' R') : wkB l G (d + 1) n_X8_rich Q 90 [.ref 0, .int a1, .int a2, .int a3, .int a4] [] I L R :=
  bb_aload_n (n := 0) (i := 0) (zd (i := .aload_n 0) (n := 1) (by decide +kernel)) rfl rfl <|
  bb_getr (k := 0) (ci := 8) (j := 3) (idx := 30) (a := 28) (zd (i := .getfield 30) (n := 3) (by decide +kernel)) (by decide +kernel) (by decide +kernel) (by decide +kernel) (by decide +kernel) rfl g455 h1 <|
  bb_iload_n (n := 3) (i := 3) (zd (i := .iload_n 3) (n := 1) (by decide +kernel)) rfl rfl <|
  bb_callV (idx := 255) (k := 28) (ci := 4) (N := n_X4_wealth) (As := [.int a3]) (st := []) (zd (i := .invokevirtual 255) (n := 3) (by decide +kernel)) to_X4_wealth g957 g958 g959 (Nat.le_of_ble_eq_true rfl) (by decide +kernel) (by decide +kernel) (by decide +kernel) rfl rfl rfl hc (fun r I' L' R' hq => by obtain ⟨y, rfl, hp⟩ := hq; exact kk y I' L' R' hp)
theorem w_X8_rich_98 {Q : qQ} {I : qMI} {L : qML} {R : qMR} {a1 : Int32} {a2 : Int32} {a3 : Int32} {a4 : Int32} {s0 : Int32} (hQ : Q (some (.int s0)) 336 I L R) : wkB l G (d + 1) n_X8_rich Q 98 [.ref 0, .int a1, .int a2, .int a3, .int a4] [.int s0] I L R :=
  (fun lv hl => q_iret (zd (i := .ireturn) (n := 1) (by decide +kernel)) rfl rfl (Nat.le_refl _) (Nat.le_refl _) hQ)
theorem w_X8_goAhead_0 {Q : qQ} {I : qMI} {L : qML} {R : qMR} {a1 : Int32} (h1 : R 0 3 = some 28) (h2 : R 0 2 = some 21) {P : qMI → qML → qMR → Prop} (hc : wkCv l G d n_X4_copy [.ref 28, .ref 21] I L R P) (kk : ∀ I' L' R', P I' L' R' → wkB l G (d + 1) n_X8_goAhead Q 11 [.ref 0, .int a1] [] I' L' R') : wkB l G (d + 1) n_X8_goAhead Q 0 [.ref 0, .int a1] [] I L R :=
  bb_aload_n (n := 0) (i := 0) (zd (i := .aload_n 0) (n := 1) (by decide +kernel)) rfl rfl <|
  bb_getr (k := 0) (ci := 8) (j := 3) (idx := 30) (a := 28) (zd (i := .getfield 30) (n := 3) (by decide +kernel)) (by decide +kernel) (by decide +kernel) (by decide +kernel) (by decide +kernel) rfl g455 h1 <|
  bb_aload_n (n := 0) (i := 0) (zd (i := .aload_n 0) (n := 1) (by decide +kernel)) rfl rfl <|
  bb_getr (k := 0) (ci := 8) (j := 2) (idx := 26) (a := 21) (zd (i := .getfield 26) (n := 3) (by decide +kernel)) (by decide +kernel) (by decide +kernel) (by decide +kernel) (by decide +kernel) rfl g454 h2 <|
  bb_callV (idx := 258) (k := 28) (ci := 4) (N := n_X4_copy) (As := [.ref 21]) (st := []) (zd (i := .invokevirtual 258) (n := 3) (by decide +kernel)) to_X4_copy g956 g841 g842 (Nat.le_of_ble_eq_true rfl) (by decide +kernel) (by decide +kernel) (by decide +kernel) rfl rfl rfl hc (fun r I' L' R' hq => by obtain ⟨rfl, hp⟩ := hq; exact kk I' L' R' hp)
theorem w_X8_goAhead_11 {Q : qQ} {I : qMI} {L : qML} {R : qMR} {o : Nat} (ho : o = 9 ∨ o = 259) {a1 : Int32} (h1 : R 0 12 = some o) (h2 : R 0 3 = some 28) (h3 : R 0 12 = some o) (h4 : R 0 12 = some o) {P : qMI → qML → qMR → Prop} (hc : wkCv l G d n_X0_pass [.ref o, .ref 28, .int a1, .int (I o 11), .int (I o 9)] I L R P) (kk : ∀ I' L' R', P I' L' R' → wkB l G (d + 1) n_X8_goAhead Q 37 [.ref 0, .int a1] [] I' L' R') : wkB l G (d + 1) n_X8_goAhead Q 11 [.ref 0, .int a1] [] I L R :=
  bb_aload_n (n := 0) (i := 0) (zd (i := .aload_n 0) (n := 1) (by decide +kernel)) rfl rfl <|
  bb_getr (k := 0) (ci := 8) (j := 12) (idx := 71) (a := o) (zd (i := .getfield 71) (n := 3) (by decide +kernel)) (by decide +kernel) (by decide +kernel) (by decide +kernel) (by decide +kernel) rfl g464 h1 <|
  bb_aload_n (n := 0) (i := 0) (zd (i := .aload_n 0) (n := 1) (by decide +kernel)) rfl rfl <|
  bb_getr (k := 0) (ci := 8) (j := 3) (idx := 30) (a := 28) (zd (i := .getfield 30) (n := 3) (by decide +kernel)) (by decide +kernel) (by decide +kernel) (by decide +kernel) (by decide +kernel) rfl g455 h2 <|
  bb_iload_n (n := 1) (i := 1) (zd (i := .iload_n 1) (n := 1) (by decide +kernel)) rfl rfl <|
  bb_aload_n (n := 0) (i := 0) (zd (i := .aload_n 0) (n := 1) (by decide +kernel)) rfl rfl <|
  bb_getr (k := 0) (ci := 8) (j := 12) (idx := 71) (a := o) (zd (i := .getfield 71) (n := 3) (by decide +kernel)) (by decide +kernel) (by decide +kernel) (by decide +kernel) (by decide +kernel) rfl g464 h3 <|
  bb_geti (k := o) (ci := 0) (j := 11) (idx := 210) (zd (i := .getfield 210) (n := 3) (by decide +kernel)) (by rcases ho with rfl | rfl <;> decide +kernel) (by rcases ho with rfl | rfl <;> decide +kernel) (by decide +kernel) (by decide +kernel) rfl g303 <|
  bb_aload_n (n := 0) (i := 0) (zd (i := .aload_n 0) (n := 1) (by decide +kernel)) rfl rfl <|
  bb_getr (k := 0) (ci := 8) (j := 12) (idx := 71) (a := o) (zd (i := .getfield 71) (n := 3) (by decide +kernel)) (by decide +kernel) (by decide +kernel) (by decide +kernel) (by decide +kernel) rfl g464 h4 <|
  bb_geti (k := o) (ci := 0) (j := 9) (idx := 213) (zd (i := .getfield 213) (n := 3) (by decide +kernel)) (by rcases ho with rfl | rfl <;> decide +kernel) (by rcases ho with rfl | rfl <;> decide +kernel) (by decide +kernel) (by decide +kernel) rfl g297 <|
  bb_callV (idx := 216) (k := o) (ci := 0) (N := n_X0_pass) (As := [.ref 28, .int a1, .int (I o 11), .int (I o 9)]) (st := []) (zd (i := .invokevirtual 216) (n := 3) (by decide +kernel)) to_X0_pass g865 g866 g867 (Nat.le_of_ble_eq_true rfl) (by rcases ho with rfl | rfl <;> decide +kernel) (by rcases ho with rfl | rfl <;> decide +kernel) (by decide +kernel) rfl rfl rfl hc (fun r I' L' R' hq => by obtain ⟨rfl, hp⟩ := hq; exact kk I' L' R' hp)
theorem w_X8_goAhead_37 {Q : qQ} {I : qMI} {L : qML} {R : qMR} {a1 : Int32} (hQ : Q none 336 I L R) : wkB l G (d + 1) n_X8_goAhead Q 37 [.ref 0, .int a1] [] I L R :=
  (fun lv hl => q_vret (zd (i := .return_) (n := 1) (by decide +kernel)) rfl (Nat.le_refl _) (Nat.le_refl _) hQ)
theorem w_X8_book_0 {Q : qQ} {I : qMI} {L : qML} {R : qMR} {a1 : Int32} {a2 : Int32} {P : Int32 → qMI → qML → qMR → Prop} (hc : wkCi l G d n_X8_isSeat [.ref 0, .int a1] I L R P) (kk : ∀ y I' L' R', P y I' L' R' → wkB l G (d + 1) n_X8_book Q 5 [.ref 0, .int a1, .int a2] [.int y] I' L' R') : wkB l G (d + 1) n_X8_book Q 0 [.ref 0, .int a1, .int a2] [] I L R :=
  bb_aload_n (n := 0) (i := 0) (zd (i := .aload_n 0) (n := 1) (by decide +kernel)) rfl rfl <|
  bb_iload_n (n := 1) (i := 1) (zd (i := .iload_n 1) (n := 1) (by decide +kernel)) rfl rfl <|
  bb_callV (idx := 131) (k := 0) (ci := 8) (N := n_X8_isSeat) (As := [.int a1]) (st := []) (zd (i := .invokevirtual 131) (n := 3) (by decide +kernel)) to_X8_isSeat g771 g773 g23 (Nat.le_of_ble_eq_true rfl) (by decide +kernel) (by decide +kernel) (by decide +kernel) rfl rfl rfl hc (fun r I' L' R' hq => by obtain ⟨y, rfl, hp⟩ := hq; exact kk y I' L' R' hp)
theorem w_X8_book_5 {Q : qQ} {I : qMI} {L : qML} {R : qMR} {a1 : Int32} {a2 : Int32} {s0 : Int32} (kt : s0 = 0 → wkB l G (d + 1) n_X8_book Q 15 [.ref 0, .int a1, .int a2] [] I L R) (kf : ¬ s0 = 0 → wkB l G (d + 1) n_X8_book Q 8 [.ref 0, .int a1, .int a2] [] I L R) : wkB l G (d + 1) n_X8_book Q 5 [.ref 0, .int a1, .int a2] [.int s0] I L R :=
  (fun lv hl => q_if_eq (off := 10) (tgt := 15) (zd (i := .ifCond .eq (10)) (n := 3) (by decide +kernel)) (by decide) (fun h => (kt h) lv hl) (fun h => (kf h) lv hl))
theorem w_X8_book_8 {Q : qQ} {I : qMI} {L : qML} {R : qMR} {a1 : Int32} {a2 : Int32} {P : Int32 → qMI → qML → qMR → Prop} (hc : wkCi l G d n_X8_isAhead [.int a2] I L R P) (kk : ∀ y I' L' R', P y I' L' R' → wkB l G (d + 1) n_X8_book Q 12 [.ref 0, .int a1, .int a2] [.int y] I' L' R') : wkB l G (d + 1) n_X8_book Q 8 [.ref 0, .int a1, .int a2] [] I L R :=
  bb_iload_n (n := 2) (i := 2) (zd (i := .iload_n 2) (n := 1) (by decide +kernel)) rfl rfl <|
  bb_callS (idx := 207) (N := n_X8_isAhead) (As := [.int a2]) (st := []) (zd (i := .invokestatic 207) (n := 3) (by decide +kernel)) to_X8_isAhead g862 g863 (Nat.le_of_ble_eq_true rfl) rfl rfl hc (fun r I' L' R' hq => by obtain ⟨y, rfl, hp⟩ := hq; exact kk y I' L' R' hp)
theorem w_X8_book_12 {Q : qQ} {I : qMI} {L : qML} {R : qMR} {a1 : Int32} {a2 : Int32} {s0 : Int32} (kt : ¬ s0 = 0 → wkB l G (d + 1) n_X8_book Q 17 [.ref 0, .int a1, .int a2] [] I L R) (kf : s0 = 0 → wkB l G (d + 1) n_X8_book Q 15 [.ref 0, .int a1, .int a2] [] I L R) : wkB l G (d + 1) n_X8_book Q 12 [.ref 0, .int a1, .int a2] [.int s0] I L R :=
  (fun lv hl => q_if_ne (off := 5) (tgt := 17) (zd (i := .ifCond .ne (5)) (n := 3) (by decide +kernel)) (by decide) (fun h => (kt h) lv hl) (fun h => (kf h) lv hl))
theorem w_X8_book_15 {Q : qQ} {I : qMI} {L : qML} {R : qMR} {a1 : Int32} {a2 : Int32} (hQ : Q (some (.int (-1))) 336 I L R) : wkB l G (d + 1) n_X8_book Q 15 [.ref 0, .int a1, .int a2] [] I L R :=
  bb_lift (fun _ => q_iconst (n := -1) (zd (i := .iconst (-1)) (n := 1) (by decide +kernel)) rfl) <|
  (fun lv hl => q_iret (zd (i := .ireturn) (n := 1) (by decide +kernel)) rfl rfl (Nat.le_refl _) (Nat.le_refl _) hQ)
theorem w_X8_book_17 {Q : qQ} {I : qMI} {L : qML} {R : qMR} {a1 : Int32} {a2 : Int32} {P : qMI → qML → qMR → Prop} (hc : wkCv l G d n_X8_goAhead [.ref 0, .int a2] I L R P) (kk : ∀ I' L' R', P I' L' R' → wkB l G (d + 1) n_X8_book Q 22 [.ref 0, .int a1, .int a2] [] I' L' R') : wkB l G (d + 1) n_X8_book Q 17 [.ref 0, .int a1, .int a2] [] I L R :=
  bb_aload_n (n := 0) (i := 0) (zd (i := .aload_n 0) (n := 1) (by decide +kernel)) rfl rfl <|
  bb_iload_n (n := 2) (i := 2) (zd (i := .iload_n 2) (n := 1) (by decide +kernel)) rfl rfl <|
  bb_callV (idx := 252) (k := 0) (ci := 8) (N := n_X8_goAhead) (As := [.int a2]) (st := []) (zd (i := .invokevirtual 252) (n := 3) (by decide +kernel)) to_X8_goAhead g952 g954 g32 (Nat.le_of_ble_eq_true rfl) (by decide +kernel) (by decide +kernel) (by decide +kernel) rfl rfl rfl hc (fun r I' L' R' hq => by obtain ⟨rfl, hp⟩ := hq; exact kk I' L' R' hp)
theorem w_X8_book_22 {Q : qQ} {I : qMI} {L : qML} {R : qMR} {a1 : Int32} {a2 : Int32} (h1 : R 0 3 = some 28) {P : Int32 → qMI → qML → qMR → Prop} (hc : wkCi l G d n_X4_wealth [.ref 28, .int a1] I L R P) (kk : ∀ y I' L' R', P y I' L' R' → wkB l G (d + 1) n_X8_book Q 30 [.ref 0, .int a1, .int a2] [.int y] I' L' R') : wkB l G (d + 1) n_X8_book Q 22 [.ref 0, .int a1, .int a2] [] I L R :=
  bb_aload_n (n := 0) (i := 0) (zd (i := .aload_n 0) (n := 1) (by decide +kernel)) rfl rfl <|
  bb_getr (k := 0) (ci := 8) (j := 3) (idx := 30) (a := 28) (zd (i := .getfield 30) (n := 3) (by decide +kernel)) (by decide +kernel) (by decide +kernel) (by decide +kernel) (by decide +kernel) rfl g455 h1 <|
  bb_iload_n (n := 1) (i := 1) (zd (i := .iload_n 1) (n := 1) (by decide +kernel)) rfl rfl <|
  bb_callV (idx := 255) (k := 28) (ci := 4) (N := n_X4_wealth) (As := [.int a1]) (st := []) (zd (i := .invokevirtual 255) (n := 3) (by decide +kernel)) to_X4_wealth g957 g958 g959 (Nat.le_of_ble_eq_true rfl) (by decide +kernel) (by decide +kernel) (by decide +kernel) rfl rfl rfl hc (fun r I' L' R' hq => by obtain ⟨y, rfl, hp⟩ := hq; exact kk y I' L' R' hp)
theorem w_X8_book_30 {Q : qQ} {I : qMI} {L : qML} {R : qMR} {a1 : Int32} {a2 : Int32} {s0 : Int32} (hQ : Q (some (.int s0)) 336 I L R) : wkB l G (d + 1) n_X8_book Q 30 [.ref 0, .int a1, .int a2] [.int s0] I L R :=
  (fun lv hl => q_iret (zd (i := .ireturn) (n := 1) (by decide +kernel)) rfl rfl (Nat.le_refl _) (Nat.le_refl _) hQ)
theorem w_X4_wealth_0 {Q : qQ} {I : qMI} {L : qML} {R : qMR} {b : Nat} (hb : b ∈ bL) {a1 : Int32} (h1 : R b 2 = some (b + 2)) (h2 : vp_in a1 6) {P : Int32 → qMI → qML → qMR → Prop} (hc : wkCi l G d n_X4_lentBy [.ref b, .int a1] I L R P) (kk : ∀ y I' L' R', P y I' L' R' → wkB l G (d + 1) n_X4_wealth Q 11 [.ref b, .int a1] [.int y, .int (I (b + 2) a1.toNatClampNeg)] I' L' R') : wkB l G (d + 1) n_X4_wealth Q 0 [.ref b, .int a1] [] I L R :=
  bb_aload_n (n := 0) (i := 0) (zd (i := .aload_n 0) (n := 1) (by decide +kernel)) rfl rfl <|
  bb_getr (k := b) (ci := 4) (j := 2) (idx := 19) (a := (b + 2)) (zd (i := .getfield 19) (n := 3) (by decide +kernel)) (by first | exact bLt hb 0 (by decide) | exact bTg hb 0 rfl | exact bCp hb 0 (by decide) | (rw [bTg (q := 4) hb 0 rfl]; decide) | (rw [bSz (q := 7) hb 0 rfl]; rfl)) (by first | exact bLt hb 0 (by decide) | exact bTg hb 0 rfl | exact bCp hb 0 (by decide) | (rw [bTg (q := 4) hb 0 rfl]; decide) | (rw [bSz (q := 7) hb 0 rfl]; rfl)) (by decide +kernel) (by decide +kernel) rfl g373 h1 <|
  bb_iload_n (n := 1) (i := 1) (zd (i := .iload_n 1) (n := 1) (by decide +kernel)) rfl rfl <|
  bb_lift (fun _ => q_iald (k := (b + 2)) (zd (i := .iaload) (n := 1) (by decide +kernel)) (by first | exact bLt hb 2 (by decide) | exact bTg hb 2 rfl | exact bCp hb 2 (by decide) | (rw [bTg (q := 10) hb 2 rfl]; decide) | (rw [bSz (q := 6) hb 2 rfl]; rfl)) (by first | exact bLt hb 2 (by decide) | exact bTg hb 2 rfl | exact bCp hb 2 (by decide) | (rw [bTg (q := 10) hb 2 rfl]; decide) | (rw [bSz (q := 6) hb 2 rfl]; rfl)) (by rw [show (qSh (b + 2)).2 = 6 from bSz hb 2 rfl]; exact h2)) <|
  bb_aload_n (n := 0) (i := 0) (zd (i := .aload_n 0) (n := 1) (by decide +kernel)) rfl rfl <|
  bb_iload_n (n := 1) (i := 1) (zd (i := .iload_n 1) (n := 1) (by decide +kernel)) rfl rfl <|
  bb_callV (idx := 63) (k := b) (ci := 4) (N := n_X4_lentBy) (As := [.int a1]) (st := [.int (I (b + 2) a1.toNatClampNeg)]) (zd (i := .invokevirtual 63) (n := 3) (by decide +kernel)) to_X4_lentBy g961 g789 g790 (Nat.le_of_ble_eq_true rfl) (by first | exact bLt hb 0 (by decide) | exact bTg hb 0 rfl | exact bCp hb 0 (by decide) | (rw [bTg (q := 4) hb 0 rfl]; decide) | (rw [bSz (q := 7) hb 0 rfl]; rfl)) (by first | exact bLt hb 0 (by decide) | exact bTg hb 0 rfl | exact bCp hb 0 (by decide) | (rw [bTg (q := 4) hb 0 rfl]; decide) | (rw [bSz (q := 7) hb 0 rfl]; rfl)) (by decide +kernel) rfl rfl rfl hc (fun r I' L' R' hq => by obtain ⟨y, rfl, hp⟩ := hq; exact kk y I' L' R' hp)
theorem w_X4_wealth_11 {Q : qQ} {I : qMI} {L : qML} {R : qMR} {b : Nat} (hb : b ∈ bL) {a1 : Int32} {s0 : Int32} {s1 : Int32} (hQ : Q (some (.int (s0 + s1))) 336 I L R) : wkB l G (d + 1) n_X4_wealth Q 11 [.ref b, .int a1] [.int s1, .int s0] I L R :=
  bb_lift (fun _ => q_iadd (zd (i := .iadd) (n := 1) (by decide +kernel))) <|
  (fun lv hl => q_iret (zd (i := .ireturn) (n := 1) (by decide +kernel)) rfl rfl (Nat.le_refl _) (Nat.le_refl _) hQ)
theorem w_X8_lentIn_0 {Q : qQ} {I : qMI} {L : qML} {R : qMR} {a1 : Int32} {a2 : Int32} {a3 : Int32} {P : Int32 → qMI → qML → qMR → Prop} (hc : wkCi l G d n_X8_isPair [.ref 0, .int a1, .int a2] I L R P) (kk : ∀ y I' L' R', P y I' L' R' → wkB l G (d + 1) n_X8_lentIn Q 6 [.ref 0, .int a1, .int a2, .int a3, wkU] [.int y] I' L' R') : wkB l G (d + 1) n_X8_lentIn Q 0 [.ref 0, .int a1, .int a2, .int a3, wkU] [] I L R :=
  bb_aload_n (n := 0) (i := 0) (zd (i := .aload_n 0) (n := 1) (by decide +kernel)) rfl rfl <|
  bb_iload_n (n := 1) (i := 1) (zd (i := .iload_n 1) (n := 1) (by decide +kernel)) rfl rfl <|
  bb_iload_n (n := 2) (i := 2) (zd (i := .iload_n 2) (n := 1) (by decide +kernel)) rfl rfl <|
  bb_callV (idx := 162) (k := 0) (ci := 8) (N := n_X8_isPair) (As := [.int a1, .int a2]) (st := []) (zd (i := .invokevirtual 162) (n := 3) (by decide +kernel)) to_X8_isPair g797 g799 g26 (Nat.le_of_ble_eq_true rfl) (by decide +kernel) (by decide +kernel) (by decide +kernel) rfl rfl rfl hc (fun r I' L' R' hq => by obtain ⟨y, rfl, hp⟩ := hq; exact kk y I' L' R' hp)
theorem w_X8_lentIn_6 {Q : qQ} {I : qMI} {L : qML} {R : qMR} {a1 : Int32} {a2 : Int32} {a3 : Int32} {s0 : Int32} (kt : s0 = 0 → wkB l G (d + 1) n_X8_lentIn Q 16 [.ref 0, .int a1, .int a2, .int a3, wkU] [] I L R) (kf : ¬ s0 = 0 → wkB l G (d + 1) n_X8_lentIn Q 9 [.ref 0, .int a1, .int a2, .int a3, wkU] [] I L R) : wkB l G (d + 1) n_X8_lentIn Q 6 [.ref 0, .int a1, .int a2, .int a3, wkU] [.int s0] I L R :=
  (fun lv hl => q_if_eq (off := 10) (tgt := 16) (zd (i := .ifCond .eq (10)) (n := 3) (by decide +kernel)) (by decide) (fun h => (kt h) lv hl) (fun h => (kf h) lv hl))
theorem w_X8_lentIn_9 {Q : qQ} {I : qMI} {L : qML} {R : qMR} {a1 : Int32} {a2 : Int32} {a3 : Int32} {P : Int32 → qMI → qML → qMR → Prop} (hc : wkCi l G d n_X8_isAhead [.int a3] I L R P) (kk : ∀ y I' L' R', P y I' L' R' → wkB l G (d + 1) n_X8_lentIn Q 13 [.ref 0, .int a1, .int a2, .int a3, wkU] [.int y] I' L' R') : wkB l G (d + 1) n_X8_lentIn Q 9 [.ref 0, .int a1, .int a2, .int a3, wkU] [] I L R :=
  bb_iload_n (n := 3) (i := 3) (zd (i := .iload_n 3) (n := 1) (by decide +kernel)) rfl rfl <|
  bb_callS (idx := 207) (N := n_X8_isAhead) (As := [.int a3]) (st := []) (zd (i := .invokestatic 207) (n := 3) (by decide +kernel)) to_X8_isAhead g862 g863 (Nat.le_of_ble_eq_true rfl) rfl rfl hc (fun r I' L' R' hq => by obtain ⟨y, rfl, hp⟩ := hq; exact kk y I' L' R' hp)
theorem w_X8_lentIn_13 {Q : qQ} {I : qMI} {L : qML} {R : qMR} {a1 : Int32} {a2 : Int32} {a3 : Int32} {s0 : Int32} (kt : ¬ s0 = 0 → wkB l G (d + 1) n_X8_lentIn Q 18 [.ref 0, .int a1, .int a2, .int a3, wkU] [] I L R) (kf : s0 = 0 → wkB l G (d + 1) n_X8_lentIn Q 16 [.ref 0, .int a1, .int a2, .int a3, wkU] [] I L R) : wkB l G (d + 1) n_X8_lentIn Q 13 [.ref 0, .int a1, .int a2, .int a3, wkU] [.int s0] I L R :=
  (fun lv hl => q_if_ne (off := 5) (tgt := 18) (zd (i := .ifCond .ne (5)) (n := 3) (by decide +kernel)) (by decide) (fun h => (kt h) lv hl) (fun h => (kf h) lv hl))
theorem w_X8_lentIn_16 {Q : qQ} {I : qMI} {L : qML} {R : qMR} {a1 : Int32} {a2 : Int32} {a3 : Int32} (hQ : Q (some (.int (-1))) 336 I L R) : wkB l G (d + 1) n_X8_lentIn Q 16 [.ref 0, .int a1, .int a2, .int a3, wkU] [] I L R :=
  bb_lift (fun _ => q_iconst (n := -1) (zd (i := .iconst (-1)) (n := 1) (by decide +kernel)) rfl) <|
  (fun lv hl => q_iret (zd (i := .ireturn) (n := 1) (by decide +kernel)) rfl rfl (Nat.le_refl _) (Nat.le_refl _) hQ)
theorem w_X8_lentIn_18 {Q : qQ} {I : qMI} {L : qML} {R : qMR} {a1 : Int32} {a2 : Int32} {a3 : Int32} {P : Int32 → qMI → qML → qMR → Prop} (hc : wkCi l G d n_X8_loanOf [.int a1, .int a2] I L R P) (kk : ∀ y I' L' R', P y I' L' R' → wkB l G (d + 1) n_X8_lentIn Q 23 [.ref 0, .int a1, .int a2, .int a3, wkU] [.int y] I' L' R') : wkB l G (d + 1) n_X8_lentIn Q 18 [.ref 0, .int a1, .int a2, .int a3, wkU] [] I L R :=
  bb_iload_n (n := 1) (i := 1) (zd (i := .iload_n 1) (n := 1) (by decide +kernel)) rfl rfl <|
  bb_iload_n (n := 2) (i := 2) (zd (i := .iload_n 2) (n := 1) (by decide +kernel)) rfl rfl <|
  bb_callS (idx := 166) (N := n_X8_loanOf) (As := [.int a1, .int a2]) (st := []) (zd (i := .invokestatic 166) (n := 3) (by decide +kernel)) to_X8_loanOf g764 g765 (Nat.le_of_ble_eq_true rfl) rfl rfl hc (fun r I' L' R' hq => by obtain ⟨y, rfl, hp⟩ := hq; exact kk y I' L' R' hp)
theorem w_X8_lentIn_23 {Q : qQ} {I : qMI} {L : qML} {R : qMR} {a1 : Int32} {a2 : Int32} {a3 : Int32} {s0 : Int32} (h1 : R 0 3 = some 28) (h2 : R 0 2 = some 21) {P : qMI → qML → qMR → Prop} (hc : wkCv l G d n_X4_copy [.ref 28, .ref 21] I L R P) (kk : ∀ I' L' R', P I' L' R' → wkB l G (d + 1) n_X8_lentIn Q 36 [.ref 0, .int a1, .int a2, .int a3, .int s0] [] I' L' R') : wkB l G (d + 1) n_X8_lentIn Q 23 [.ref 0, .int a1, .int a2, .int a3, wkU] [.int s0] I L R :=
  bb_istore (i := 4) (zd (i := .istore 4) (n := 2) (by decide +kernel)) (by decide +kernel) (wkNl_i rfl) <|
  bb_aload_n (n := 0) (i := 0) (zd (i := .aload_n 0) (n := 1) (by decide +kernel)) rfl rfl <|
  bb_getr (k := 0) (ci := 8) (j := 3) (idx := 30) (a := 28) (zd (i := .getfield 30) (n := 3) (by decide +kernel)) (by decide +kernel) (by decide +kernel) (by decide +kernel) (by decide +kernel) rfl g455 h1 <|
  bb_aload_n (n := 0) (i := 0) (zd (i := .aload_n 0) (n := 1) (by decide +kernel)) rfl rfl <|
  bb_getr (k := 0) (ci := 8) (j := 2) (idx := 26) (a := 21) (zd (i := .getfield 26) (n := 3) (by decide +kernel)) (by decide +kernel) (by decide +kernel) (by decide +kernel) (by decide +kernel) rfl g454 h2 <|
  bb_callV (idx := 258) (k := 28) (ci := 4) (N := n_X4_copy) (As := [.ref 21]) (st := []) (zd (i := .invokevirtual 258) (n := 3) (by decide +kernel)) to_X4_copy g956 g841 g842 (Nat.le_of_ble_eq_true rfl) (by decide +kernel) (by decide +kernel) (by decide +kernel) rfl rfl rfl hc (fun r I' L' R' hq => by obtain ⟨rfl, hp⟩ := hq; exact kk I' L' R' hp)
theorem w_X8_lentIn_36 {Q : qQ} {I : qMI} {L : qML} {R : qMR} {a1 : Int32} {a2 : Int32} {a3 : Int32} {a4 : Int32} (h1 : R 0 3 = some 28) {P : qMI → qML → qMR → Prop} (hc : wkCv l G d n_X4_keepOnly [.ref 28, .int a4] I L R P) (kk : ∀ I' L' R', P I' L' R' → wkB l G (d + 1) n_X8_lentIn Q 45 [.ref 0, .int a1, .int a2, .int a3, .int a4] [] I' L' R') : wkB l G (d + 1) n_X8_lentIn Q 36 [.ref 0, .int a1, .int a2, .int a3, .int a4] [] I L R :=
  bb_aload_n (n := 0) (i := 0) (zd (i := .aload_n 0) (n := 1) (by decide +kernel)) rfl rfl <|
  bb_getr (k := 0) (ci := 8) (j := 3) (idx := 30) (a := 28) (zd (i := .getfield 30) (n := 3) (by decide +kernel)) (by decide +kernel) (by decide +kernel) (by decide +kernel) (by decide +kernel) rfl g455 h1 <|
  bb_iload (i := 4) (zd (i := .iload 4) (n := 2) (by decide +kernel)) rfl <|
  bb_callV (idx := 279) (k := 28) (ci := 4) (N := n_X4_keepOnly) (As := [.int a4]) (st := []) (zd (i := .invokevirtual 279) (n := 3) (by decide +kernel)) to_X4_keepOnly g986 g689 g690 (Nat.le_of_ble_eq_true rfl) (by decide +kernel) (by decide +kernel) (by decide +kernel) rfl rfl rfl hc (fun r I' L' R' hq => by obtain ⟨rfl, hp⟩ := hq; exact kk I' L' R' hp)
theorem w_X8_lentIn_45 {Q : qQ} {I : qMI} {L : qML} {R : qMR} {o : Nat} (ho : o = 9 ∨ o = 259) {a1 : Int32} {a2 : Int32} {a3 : Int32} {a4 : Int32} (h1 : R 0 12 = some o) (h2 : R 0 3 = some 28) (h3 : R 0 12 = some o) (h4 : R 0 12 = some o) {P : qMI → qML → qMR → Prop} (hc : wkCv l G d n_X0_pass [.ref o, .ref 28, .int a3, .int (I o 11), .int (I o 9)] I L R P) (kk : ∀ I' L' R', P I' L' R' → wkB l G (d + 1) n_X8_lentIn Q 71 [.ref 0, .int a1, .int a2, .int a3, .int a4] [] I' L' R') : wkB l G (d + 1) n_X8_lentIn Q 45 [.ref 0, .int a1, .int a2, .int a3, .int a4] [] I L R :=
  bb_aload_n (n := 0) (i := 0) (zd (i := .aload_n 0) (n := 1) (by decide +kernel)) rfl rfl <|
  bb_getr (k := 0) (ci := 8) (j := 12) (idx := 71) (a := o) (zd (i := .getfield 71) (n := 3) (by decide +kernel)) (by decide +kernel) (by decide +kernel) (by decide +kernel) (by decide +kernel) rfl g464 h1 <|
  bb_aload_n (n := 0) (i := 0) (zd (i := .aload_n 0) (n := 1) (by decide +kernel)) rfl rfl <|
  bb_getr (k := 0) (ci := 8) (j := 3) (idx := 30) (a := 28) (zd (i := .getfield 30) (n := 3) (by decide +kernel)) (by decide +kernel) (by decide +kernel) (by decide +kernel) (by decide +kernel) rfl g455 h2 <|
  bb_iload_n (n := 3) (i := 3) (zd (i := .iload_n 3) (n := 1) (by decide +kernel)) rfl rfl <|
  bb_aload_n (n := 0) (i := 0) (zd (i := .aload_n 0) (n := 1) (by decide +kernel)) rfl rfl <|
  bb_getr (k := 0) (ci := 8) (j := 12) (idx := 71) (a := o) (zd (i := .getfield 71) (n := 3) (by decide +kernel)) (by decide +kernel) (by decide +kernel) (by decide +kernel) (by decide +kernel) rfl g464 h3 <|
  bb_geti (k := o) (ci := 0) (j := 11) (idx := 210) (zd (i := .getfield 210) (n := 3) (by decide +kernel)) (by rcases ho with rfl | rfl <;> decide +kernel) (by rcases ho with rfl | rfl <;> decide +kernel) (by decide +kernel) (by decide +kernel) rfl g303 <|
  bb_aload_n (n := 0) (i := 0) (zd (i := .aload_n 0) (n := 1) (by decide +kernel)) rfl rfl <|
  bb_getr (k := 0) (ci := 8) (j := 12) (idx := 71) (a := o) (zd (i := .getfield 71) (n := 3) (by decide +kernel)) (by decide +kernel) (by decide +kernel) (by decide +kernel) (by decide +kernel) rfl g464 h4 <|
  bb_geti (k := o) (ci := 0) (j := 9) (idx := 213) (zd (i := .getfield 213) (n := 3) (by decide +kernel)) (by rcases ho with rfl | rfl <;> decide +kernel) (by rcases ho with rfl | rfl <;> decide +kernel) (by decide +kernel) (by decide +kernel) rfl g297 <|
  bb_callV (idx := 216) (k := o) (ci := 0) (N := n_X0_pass) (As := [.ref 28, .int a3, .int (I o 11), .int (I o 9)]) (st := []) (zd (i := .invokevirtual 216) (n := 3) (by decide +kernel)) to_X0_pass g865 g866 g867 (Nat.le_of_ble_eq_true rfl) (by rcases ho with rfl | rfl <;> decide +kernel) (by rcases ho with rfl | rfl <;> decide +kernel) (by decide +kernel) rfl rfl rfl hc (fun r I' L' R' hq => by obtain ⟨rfl, hp⟩ := hq; exact kk I' L' R' hp)
theorem w_X8_lentIn_71 {Q : qQ} {I : qMI} {L : qML} {R : qMR} {a1 : Int32} {a2 : Int32} {a3 : Int32} {a4 : Int32} (h1 : R 0 3 = some 28) (h2 : R 28 5 = some 33) (h3 : vp_in a4 36) (kt : ¬ (I 33 a4.toNatClampNeg) = 0 → wkB l G (d + 1) n_X8_lentIn Q 89 [.ref 0, .int a1, .int a2, .int a3, .int a4] [] I L R) (kf : (I 33 a4.toNatClampNeg) = 0 → wkB l G (d + 1) n_X8_lentIn Q 84 [.ref 0, .int a1, .int a2, .int a3, .int a4] [] I L R) : wkB l G (d + 1) n_X8_lentIn Q 71 [.ref 0, .int a1, .int a2, .int a3, .int a4] [] I L R :=
  bb_aload_n (n := 0) (i := 0) (zd (i := .aload_n 0) (n := 1) (by decide +kernel)) rfl rfl <|
  bb_getr (k := 0) (ci := 8) (j := 3) (idx := 30) (a := 28) (zd (i := .getfield 30) (n := 3) (by decide +kernel)) (by decide +kernel) (by decide +kernel) (by decide +kernel) (by decide +kernel) rfl g455 h1 <|
  bb_getr (k := 28) (ci := 4) (j := 5) (idx := 169) (a := 33) (zd (i := .getfield 169) (n := 3) (by decide +kernel)) (by decide +kernel) (by decide +kernel) (by decide +kernel) (by decide +kernel) rfl g383 h2 <|
  bb_iload (i := 4) (zd (i := .iload 4) (n := 2) (by decide +kernel)) rfl <|
  bb_lift (fun _ => q_iald (k := 33) (zd (i := .iaload) (n := 1) (by decide +kernel)) (by decide +kernel) (by decide +kernel) h3) <|
  (fun lv hl => q_if_ne (off := 8) (tgt := 89) (zd (i := .ifCond .ne (8)) (n := 3) (by decide +kernel)) (by decide) (fun h => (kt h) lv hl) (fun h => (kf h) lv hl))
theorem w_X8_lentIn_84 {Q : qQ} {I : qMI} {L : qML} {R : qMR} {a1 : Int32} {a2 : Int32} {a3 : Int32} {a4 : Int32} (k : wkB l G (d + 1) n_X8_lentIn Q 99 [.ref 0, .int a1, .int a2, .int a3, .int a4] [.int (-2)] I L R) : wkB l G (d + 1) n_X8_lentIn Q 84 [.ref 0, .int a1, .int a2, .int a3, .int a4] [] I L R :=
  bb_lift (fun _ => q_bipush (n := -2) (zd (i := .bipush (-2)) (n := 2) (by decide +kernel)) rfl) <|
  bb_lift (fun _ => q_goto (off := 13) (tgt := 99) (zd (i := .goto (13)) (n := 3) (by decide +kernel)) (by decide)) k
theorem w_X8_lentIn_89 {Q : qQ} {I : qMI} {L : qML} {R : qMR} {a1 : Int32} {a2 : Int32} {a3 : Int32} {a4 : Int32} (h1 : R 0 3 = some 28) (h2 : R 28 5 = some 33) (h3 : vp_in a4 36) (k : wkB l G (d + 1) n_X8_lentIn Q 99 [.ref 0, .int a1, .int a2, .int a3, .int a4] [.int (I 33 a4.toNatClampNeg)] I L R) : wkB l G (d + 1) n_X8_lentIn Q 89 [.ref 0, .int a1, .int a2, .int a3, .int a4] [] I L R :=
  bb_aload_n (n := 0) (i := 0) (zd (i := .aload_n 0) (n := 1) (by decide +kernel)) rfl rfl <|
  bb_getr (k := 0) (ci := 8) (j := 3) (idx := 30) (a := 28) (zd (i := .getfield 30) (n := 3) (by decide +kernel)) (by decide +kernel) (by decide +kernel) (by decide +kernel) (by decide +kernel) rfl g455 h1 <|
  bb_getr (k := 28) (ci := 4) (j := 5) (idx := 169) (a := 33) (zd (i := .getfield 169) (n := 3) (by decide +kernel)) (by decide +kernel) (by decide +kernel) (by decide +kernel) (by decide +kernel) rfl g383 h2 <|
  bb_iload (i := 4) (zd (i := .iload 4) (n := 2) (by decide +kernel)) rfl <|
  bb_lift (fun _ => q_iald (k := 33) (zd (i := .iaload) (n := 1) (by decide +kernel)) (by decide +kernel) (by decide +kernel) h3) <|
  k
theorem w_X8_lentIn_99 {Q : qQ} {I : qMI} {L : qML} {R : qMR} {a1 : Int32} {a2 : Int32} {a3 : Int32} {a4 : Int32} {s0 : Int32} (hQ : Q (some (.int s0)) 336 I L R) : wkB l G (d + 1) n_X8_lentIn Q 99 [.ref 0, .int a1, .int a2, .int a3, .int a4] [.int s0] I L R :=
  (fun lv hl => q_iret (zd (i := .ireturn) (n := 1) (by decide +kernel)) rfl rfl (Nat.le_refl _) (Nat.le_refl _) hQ)
theorem w_X8_worth_0 {Q : qQ} {I : qMI} {L : qML} {R : qMR} {a1 : Int32} {a2 : Int32} {a3 : Int32} {a4 : Int32} {P : Int32 → qMI → qML → qMR → Prop} (hc : wkCi l G d n_X8_isPair [.ref 0, .int a1, .int a2] I L R P) (kk : ∀ y I' L' R', P y I' L' R' → wkB l G (d + 1) n_X8_worth Q 6 [.ref 0, .int a1, .int a2, .int a3, .int a4, wkU, wkU] [.int y] I' L' R') : wkB l G (d + 1) n_X8_worth Q 0 [.ref 0, .int a1, .int a2, .int a3, .int a4, wkU, wkU] [] I L R :=
  bb_aload_n (n := 0) (i := 0) (zd (i := .aload_n 0) (n := 1) (by decide +kernel)) rfl rfl <|
  bb_iload_n (n := 1) (i := 1) (zd (i := .iload_n 1) (n := 1) (by decide +kernel)) rfl rfl <|
  bb_iload_n (n := 2) (i := 2) (zd (i := .iload_n 2) (n := 1) (by decide +kernel)) rfl rfl <|
  bb_callV (idx := 162) (k := 0) (ci := 8) (N := n_X8_isPair) (As := [.int a1, .int a2]) (st := []) (zd (i := .invokevirtual 162) (n := 3) (by decide +kernel)) to_X8_isPair g797 g799 g26 (Nat.le_of_ble_eq_true rfl) (by decide +kernel) (by decide +kernel) (by decide +kernel) rfl rfl rfl hc (fun r I' L' R' hq => by obtain ⟨y, rfl, hp⟩ := hq; exact kk y I' L' R' hp)
theorem w_X8_worth_6 {Q : qQ} {I : qMI} {L : qML} {R : qMR} {a1 : Int32} {a2 : Int32} {a3 : Int32} {a4 : Int32} {s0 : Int32} (kt : s0 = 0 → wkB l G (d + 1) n_X8_worth Q 34 [.ref 0, .int a1, .int a2, .int a3, .int a4, wkU, wkU] [] I L R) (kf : ¬ s0 = 0 → wkB l G (d + 1) n_X8_worth Q 9 [.ref 0, .int a1, .int a2, .int a3, .int a4, wkU, wkU] [] I L R) : wkB l G (d + 1) n_X8_worth Q 6 [.ref 0, .int a1, .int a2, .int a3, .int a4, wkU, wkU] [.int s0] I L R :=
  (fun lv hl => q_if_eq (off := 28) (tgt := 34) (zd (i := .ifCond .eq (28)) (n := 3) (by decide +kernel)) (by decide) (fun h => (kt h) lv hl) (fun h => (kf h) lv hl))
theorem w_X8_worth_9 {Q : qQ} {I : qMI} {L : qML} {R : qMR} {a1 : Int32} {a2 : Int32} {a3 : Int32} {a4 : Int32} (kt : a3 < 1 → wkB l G (d + 1) n_X8_worth Q 34 [.ref 0, .int a1, .int a2, .int a3, .int a4, wkU, wkU] [] I L R) (kf : ¬ a3 < 1 → wkB l G (d + 1) n_X8_worth Q 14 [.ref 0, .int a1, .int a2, .int a3, .int a4, wkU, wkU] [] I L R) : wkB l G (d + 1) n_X8_worth Q 9 [.ref 0, .int a1, .int a2, .int a3, .int a4, wkU, wkU] [] I L R :=
  bb_iload_n (n := 3) (i := 3) (zd (i := .iload_n 3) (n := 1) (by decide +kernel)) rfl rfl <|
  bb_lift (fun _ => q_iconst (n := 1) (zd (i := .iconst (1)) (n := 1) (by decide +kernel)) rfl) <|
  (fun lv hl => q_icmp_lt (off := 23) (tgt := 34) (zd (i := .if_icmp .lt (23)) (n := 3) (by decide +kernel)) (by decide) (fun h => (kt h) lv hl) (fun h => (kf h) lv hl))
theorem w_X8_worth_14 {Q : qQ} {I : qMI} {L : qML} {R : qMR} {a1 : Int32} {a2 : Int32} {a3 : Int32} {a4 : Int32} (kt : 999 < a3 → wkB l G (d + 1) n_X8_worth Q 34 [.ref 0, .int a1, .int a2, .int a3, .int a4, wkU, wkU] [] I L R) (kf : ¬ 999 < a3 → wkB l G (d + 1) n_X8_worth Q 21 [.ref 0, .int a1, .int a2, .int a3, .int a4, wkU, wkU] [] I L R) : wkB l G (d + 1) n_X8_worth Q 14 [.ref 0, .int a1, .int a2, .int a3, .int a4, wkU, wkU] [] I L R :=
  bb_iload_n (n := 3) (i := 3) (zd (i := .iload_n 3) (n := 1) (by decide +kernel)) rfl rfl <|
  bb_lift (fun _ => q_sipush (n := 999) (zd (i := .sipush (999)) (n := 3) (by decide +kernel)) rfl) <|
  (fun lv hl => q_icmp_gt (off := 16) (tgt := 34) (zd (i := .if_icmp .gt (16)) (n := 3) (by decide +kernel)) (by decide) (fun h => (kt h) lv hl) (fun h => (kf h) lv hl))
theorem w_X8_worth_21 {Q : qQ} {I : qMI} {L : qML} {R : qMR} {a1 : Int32} {a2 : Int32} {a3 : Int32} {a4 : Int32} (kt : a4 < 1 → wkB l G (d + 1) n_X8_worth Q 34 [.ref 0, .int a1, .int a2, .int a3, .int a4, wkU, wkU] [] I L R) (kf : ¬ a4 < 1 → wkB l G (d + 1) n_X8_worth Q 27 [.ref 0, .int a1, .int a2, .int a3, .int a4, wkU, wkU] [] I L R) : wkB l G (d + 1) n_X8_worth Q 21 [.ref 0, .int a1, .int a2, .int a3, .int a4, wkU, wkU] [] I L R :=
  bb_iload (i := 4) (zd (i := .iload 4) (n := 2) (by decide +kernel)) rfl <|
  bb_lift (fun _ => q_iconst (n := 1) (zd (i := .iconst (1)) (n := 1) (by decide +kernel)) rfl) <|
  (fun lv hl => q_icmp_lt (off := 10) (tgt := 34) (zd (i := .if_icmp .lt (10)) (n := 3) (by decide +kernel)) (by decide) (fun h => (kt h) lv hl) (fun h => (kf h) lv hl))
theorem w_X8_worth_27 {Q : qQ} {I : qMI} {L : qML} {R : qMR} {a1 : Int32} {a2 : Int32} {a3 : Int32} {a4 : Int32} (kt : a4 ≤ 48 → wkB l G (d + 1) n_X8_worth Q 38 [.ref 0, .int a1, .int a2, .int a3, .int a4, wkU, wkU] [] I L R) (kf : ¬ a4 ≤ 48 → wkB l G (d + 1) n_X8_worth Q 34 [.ref 0, .int a1, .int a2, .int a3, .int a4, wkU, wkU] [] I L R) : wkB l G (d + 1) n_X8_worth Q 27 [.ref 0, .int a1, .int a2, .int a3, .int a4, wkU, wkU] [] I L R :=
  bb_iload (i := 4) (zd (i := .iload 4) (n := 2) (by decide +kernel)) rfl <|
  bb_lift (fun _ => q_bipush (n := 48) (zd (i := .bipush (48)) (n := 2) (by decide +kernel)) rfl) <|
  (fun lv hl => q_icmp_le (off := 7) (tgt := 38) (zd (i := .if_icmp .le (7)) (n := 3) (by decide +kernel)) (by decide) (fun h => (kt h) lv hl) (fun h => (kf h) lv hl))
theorem w_X8_worth_34 {Q : qQ} {I : qMI} {L : qML} {R : qMR} {a1 : Int32} {a2 : Int32} {a3 : Int32} {a4 : Int32} (hQ : Q (some (.int (-100000))) 336 I L R) : wkB l G (d + 1) n_X8_worth Q 34 [.ref 0, .int a1, .int a2, .int a3, .int a4, wkU, wkU] [] I L R :=
  bb_lift (fun _ => q_ldcw (n := 278) (zd (i := .ldc_w 278) (n := 3) (by decide +kernel)) g985) <|
  (fun lv hl => q_iret (zd (i := .ireturn) (n := 1) (by decide +kernel)) rfl rfl (Nat.le_refl _) (Nat.le_refl _) hQ)
theorem w_X8_worth_38 {Q : qQ} {I : qMI} {L : qML} {R : qMR} {a1 : Int32} {a2 : Int32} {a3 : Int32} {a4 : Int32} {P : Int32 → qMI → qML → qMR → Prop} (hc : wkCi l G d n_X8_loanOf [.int a1, .int a2] I L R P) (kk : ∀ y I' L' R', P y I' L' R' → wkB l G (d + 1) n_X8_worth Q 43 [.ref 0, .int a1, .int a2, .int a3, .int a4, wkU, wkU] [.int y] I' L' R') : wkB l G (d + 1) n_X8_worth Q 38 [.ref 0, .int a1, .int a2, .int a3, .int a4, wkU, wkU] [] I L R :=
  bb_iload_n (n := 1) (i := 1) (zd (i := .iload_n 1) (n := 1) (by decide +kernel)) rfl rfl <|
  bb_iload_n (n := 2) (i := 2) (zd (i := .iload_n 2) (n := 1) (by decide +kernel)) rfl rfl <|
  bb_callS (idx := 166) (N := n_X8_loanOf) (As := [.int a1, .int a2]) (st := []) (zd (i := .invokestatic 166) (n := 3) (by decide +kernel)) to_X8_loanOf g764 g765 (Nat.le_of_ble_eq_true rfl) rfl rfl hc (fun r I' L' R' hq => by obtain ⟨y, rfl, hp⟩ := hq; exact kk y I' L' R' hp)
theorem w_X8_worth_43 {Q : qQ} {I : qMI} {L : qML} {R : qMR} {a1 : Int32} {a2 : Int32} {a3 : Int32} {a4 : Int32} {s0 : Int32} (h1 : R 0 3 = some 28) (h2 : R 0 2 = some 21) {P : qMI → qML → qMR → Prop} (hc : wkCv l G d n_X4_copy [.ref 28, .ref 21] I L R P) (kk : ∀ I' L' R', P I' L' R' → wkB l G (d + 1) n_X8_worth Q 56 [.ref 0, .int a1, .int a2, .int a3, .int a4, .int s0, wkU] [] I' L' R') : wkB l G (d + 1) n_X8_worth Q 43 [.ref 0, .int a1, .int a2, .int a3, .int a4, wkU, wkU] [.int s0] I L R :=
  bb_istore (i := 5) (zd (i := .istore 5) (n := 2) (by decide +kernel)) (by decide +kernel) (wkNl_i rfl) <|
  bb_aload_n (n := 0) (i := 0) (zd (i := .aload_n 0) (n := 1) (by decide +kernel)) rfl rfl <|
  bb_getr (k := 0) (ci := 8) (j := 3) (idx := 30) (a := 28) (zd (i := .getfield 30) (n := 3) (by decide +kernel)) (by decide +kernel) (by decide +kernel) (by decide +kernel) (by decide +kernel) rfl g455 h1 <|
  bb_aload_n (n := 0) (i := 0) (zd (i := .aload_n 0) (n := 1) (by decide +kernel)) rfl rfl <|
  bb_getr (k := 0) (ci := 8) (j := 2) (idx := 26) (a := 21) (zd (i := .getfield 26) (n := 3) (by decide +kernel)) (by decide +kernel) (by decide +kernel) (by decide +kernel) (by decide +kernel) rfl g454 h2 <|
  bb_callV (idx := 258) (k := 28) (ci := 4) (N := n_X4_copy) (As := [.ref 21]) (st := []) (zd (i := .invokevirtual 258) (n := 3) (by decide +kernel)) to_X4_copy g956 g841 g842 (Nat.le_of_ble_eq_true rfl) (by decide +kernel) (by decide +kernel) (by decide +kernel) rfl rfl rfl hc (fun r I' L' R' hq => by obtain ⟨rfl, hp⟩ := hq; exact kk I' L' R' hp)
theorem w_X8_worth_56 {Q : qQ} {I : qMI} {L : qML} {R : qMR} {a1 : Int32} {a2 : Int32} {a3 : Int32} {a4 : Int32} {a5 : Int32} (h1 : R 0 3 = some 28) {P : qMI → qML → qMR → Prop} (hc : wkCv l G d n_X4_keepOnly [.ref 28, .int (-1)] I L R P) (kk : ∀ I' L' R', P I' L' R' → wkB l G (d + 1) n_X8_worth Q 64 [.ref 0, .int a1, .int a2, .int a3, .int a4, .int a5, wkU] [] I' L' R') : wkB l G (d + 1) n_X8_worth Q 56 [.ref 0, .int a1, .int a2, .int a3, .int a4, .int a5, wkU] [] I L R :=
  bb_aload_n (n := 0) (i := 0) (zd (i := .aload_n 0) (n := 1) (by decide +kernel)) rfl rfl <|
  bb_getr (k := 0) (ci := 8) (j := 3) (idx := 30) (a := 28) (zd (i := .getfield 30) (n := 3) (by decide +kernel)) (by decide +kernel) (by decide +kernel) (by decide +kernel) (by decide +kernel) rfl g455 h1 <|
  bb_lift (fun _ => q_iconst (n := -1) (zd (i := .iconst (-1)) (n := 1) (by decide +kernel)) rfl) <|
  bb_callV (idx := 279) (k := 28) (ci := 4) (N := n_X4_keepOnly) (As := [.int (-1)]) (st := []) (zd (i := .invokevirtual 279) (n := 3) (by decide +kernel)) to_X4_keepOnly g986 g689 g690 (Nat.le_of_ble_eq_true rfl) (by decide +kernel) (by decide +kernel) (by decide +kernel) rfl rfl rfl hc (fun r I' L' R' hq => by obtain ⟨rfl, hp⟩ := hq; exact kk I' L' R' hp)
theorem w_X8_worth_64 {Q : qQ} {I : qMI} {L : qML} {R : qMR} {o : Nat} (ho : o = 9 ∨ o = 259) {a1 : Int32} {a2 : Int32} {a3 : Int32} {a4 : Int32} {a5 : Int32} (h1 : R 0 3 = some 28) (h2 : R 28 4 = some 32) (h3 : vp_in a1 6) (h4 : R 0 3 = some 28) (h5 : R 28 5 = some 33) (h6 : vp_in a5 36) (h7 : R 0 12 = some o) (h8 : R 0 3 = some 28) {P : qMI → qML → qMR → Prop} (hc : wkCv l G d n_X0_pass [.ref o, .ref 28, .int a4, .int 0, .int 0] (qUp (qUp I 32 a1.toNatClampNeg 0) 33 a5.toNatClampNeg a3) L R P) (kk : ∀ I' L' R', P I' L' R' → wkB l G (d + 1) n_X8_worth Q 100 [.ref 0, .int a1, .int a2, .int a3, .int a4, .int a5, wkU] [] I' L' R') : wkB l G (d + 1) n_X8_worth Q 64 [.ref 0, .int a1, .int a2, .int a3, .int a4, .int a5, wkU] [] I L R :=
  bb_aload_n (n := 0) (i := 0) (zd (i := .aload_n 0) (n := 1) (by decide +kernel)) rfl rfl <|
  bb_getr (k := 0) (ci := 8) (j := 3) (idx := 30) (a := 28) (zd (i := .getfield 30) (n := 3) (by decide +kernel)) (by decide +kernel) (by decide +kernel) (by decide +kernel) (by decide +kernel) rfl g455 h1 <|
  bb_getr (k := 28) (ci := 4) (j := 4) (idx := 159) (a := 32) (zd (i := .getfield 159) (n := 3) (by decide +kernel)) (by decide +kernel) (by decide +kernel) (by decide +kernel) (by decide +kernel) rfl g380 h2 <|
  bb_iload_n (n := 1) (i := 1) (zd (i := .iload_n 1) (n := 1) (by decide +kernel)) rfl rfl <|
  bb_lift (fun _ => q_iconst (n := 0) (zd (i := .iconst (0)) (n := 1) (by decide +kernel)) rfl) <|
  bb_lift (fun _ => q_iast (k := 32) (zd (i := .iastore) (n := 1) (by decide +kernel)) (by decide +kernel) (by decide +kernel) h3) <|
  bb_aload_n (n := 0) (i := 0) (zd (i := .aload_n 0) (n := 1) (by decide +kernel)) rfl rfl <|
  bb_getr (k := 0) (ci := 8) (j := 3) (idx := 30) (a := 28) (zd (i := .getfield 30) (n := 3) (by decide +kernel)) (by decide +kernel) (by decide +kernel) (by decide +kernel) (by decide +kernel) rfl g455 h4 <|
  bb_getr (k := 28) (ci := 4) (j := 5) (idx := 169) (a := 33) (zd (i := .getfield 169) (n := 3) (by decide +kernel)) (by decide +kernel) (by decide +kernel) (by decide +kernel) (by decide +kernel) rfl g383 h5 <|
  bb_iload (i := 5) (zd (i := .iload 5) (n := 2) (by decide +kernel)) rfl <|
  bb_iload_n (n := 3) (i := 3) (zd (i := .iload_n 3) (n := 1) (by decide +kernel)) rfl rfl <|
  bb_lift (fun _ => q_iast (k := 33) (zd (i := .iastore) (n := 1) (by decide +kernel)) (by decide +kernel) (by decide +kernel) h6) <|
  bb_aload_n (n := 0) (i := 0) (zd (i := .aload_n 0) (n := 1) (by decide +kernel)) rfl rfl <|
  bb_getr (k := 0) (ci := 8) (j := 12) (idx := 71) (a := o) (zd (i := .getfield 71) (n := 3) (by decide +kernel)) (by decide +kernel) (by decide +kernel) (by decide +kernel) (by decide +kernel) rfl g464 h7 <|
  bb_aload_n (n := 0) (i := 0) (zd (i := .aload_n 0) (n := 1) (by decide +kernel)) rfl rfl <|
  bb_getr (k := 0) (ci := 8) (j := 3) (idx := 30) (a := 28) (zd (i := .getfield 30) (n := 3) (by decide +kernel)) (by decide +kernel) (by decide +kernel) (by decide +kernel) (by decide +kernel) rfl g455 h8 <|
  bb_iload (i := 4) (zd (i := .iload 4) (n := 2) (by decide +kernel)) rfl <|
  bb_lift (fun _ => q_iconst (n := 0) (zd (i := .iconst (0)) (n := 1) (by decide +kernel)) rfl) <|
  bb_lift (fun _ => q_iconst (n := 0) (zd (i := .iconst (0)) (n := 1) (by decide +kernel)) rfl) <|
  bb_callV (idx := 216) (k := o) (ci := 0) (N := n_X0_pass) (As := [.ref 28, .int a4, .int 0, .int 0]) (st := []) (zd (i := .invokevirtual 216) (n := 3) (by decide +kernel)) to_X0_pass g865 g866 g867 (Nat.le_of_ble_eq_true rfl) (by rcases ho with rfl | rfl <;> decide +kernel) (by rcases ho with rfl | rfl <;> decide +kernel) (by decide +kernel) rfl rfl rfl hc (fun r I' L' R' hq => by obtain ⟨rfl, hp⟩ := hq; exact kk I' L' R' hp)
theorem w_X8_worth_100 {Q : qQ} {I : qMI} {L : qML} {R : qMR} {o : Nat} (ho : o = 9 ∨ o = 259) {a1 : Int32} {a2 : Int32} {a3 : Int32} {a4 : Int32} {a5 : Int32} (h1 : R 0 12 = some o) (h2 : R 0 3 = some 28) (h3 : R 28 1 = some 29) (h4 : vp_in a1 6) (h5 : R 0 3 = some 28) (h6 : R 0 12 = some o) (h7 : R 0 3 = some 28) {P : Int32 → qMI → qML → qMR → Prop} (hc : wkCi l G d n_X0_heat [.ref o, .int (I 28 0)] I L R P) (kk : ∀ y I' L' R', P y I' L' R' → wkB l G (d + 1) n_X8_worth Q 135 [.ref 0, .int a1, .int a2, .int a3, .int a4, .int a5, wkU] [.int y, .int (I 28 0), .int a2, .int (I 29 a1.toNatClampNeg), .ref o] I' L' R') : wkB l G (d + 1) n_X8_worth Q 100 [.ref 0, .int a1, .int a2, .int a3, .int a4, .int a5, wkU] [] I L R :=
  bb_aload_n (n := 0) (i := 0) (zd (i := .aload_n 0) (n := 1) (by decide +kernel)) rfl rfl <|
  bb_getr (k := 0) (ci := 8) (j := 12) (idx := 71) (a := o) (zd (i := .getfield 71) (n := 3) (by decide +kernel)) (by decide +kernel) (by decide +kernel) (by decide +kernel) (by decide +kernel) rfl g464 h1 <|
  bb_aload_n (n := 0) (i := 0) (zd (i := .aload_n 0) (n := 1) (by decide +kernel)) rfl rfl <|
  bb_getr (k := 0) (ci := 8) (j := 3) (idx := 30) (a := 28) (zd (i := .getfield 30) (n := 3) (by decide +kernel)) (by decide +kernel) (by decide +kernel) (by decide +kernel) (by decide +kernel) rfl g455 h2 <|
  bb_getr (k := 28) (ci := 4) (j := 1) (idx := 134) (a := 29) (zd (i := .getfield 134) (n := 3) (by decide +kernel)) (by decide +kernel) (by decide +kernel) (by decide +kernel) (by decide +kernel) rfl g371 h3 <|
  bb_iload_n (n := 1) (i := 1) (zd (i := .iload_n 1) (n := 1) (by decide +kernel)) rfl rfl <|
  bb_lift (fun _ => q_iald (k := 29) (zd (i := .iaload) (n := 1) (by decide +kernel)) (by decide +kernel) (by decide +kernel) h4) <|
  bb_iload_n (n := 2) (i := 2) (zd (i := .iload_n 2) (n := 1) (by decide +kernel)) rfl rfl <|
  bb_aload_n (n := 0) (i := 0) (zd (i := .aload_n 0) (n := 1) (by decide +kernel)) rfl rfl <|
  bb_getr (k := 0) (ci := 8) (j := 3) (idx := 30) (a := 28) (zd (i := .getfield 30) (n := 3) (by decide +kernel)) (by decide +kernel) (by decide +kernel) (by decide +kernel) (by decide +kernel) rfl g455 h5 <|
  bb_geti (k := 28) (ci := 4) (j := 0) (idx := 140) (zd (i := .getfield 140) (n := 3) (by decide +kernel)) (by decide +kernel) (by decide +kernel) (by decide +kernel) (by decide +kernel) rfl g368 <|
  bb_aload_n (n := 0) (i := 0) (zd (i := .aload_n 0) (n := 1) (by decide +kernel)) rfl rfl <|
  bb_getr (k := 0) (ci := 8) (j := 12) (idx := 71) (a := o) (zd (i := .getfield 71) (n := 3) (by decide +kernel)) (by decide +kernel) (by decide +kernel) (by decide +kernel) (by decide +kernel) rfl g464 h6 <|
  bb_aload_n (n := 0) (i := 0) (zd (i := .aload_n 0) (n := 1) (by decide +kernel)) rfl rfl <|
  bb_getr (k := 0) (ci := 8) (j := 3) (idx := 30) (a := 28) (zd (i := .getfield 30) (n := 3) (by decide +kernel)) (by decide +kernel) (by decide +kernel) (by decide +kernel) (by decide +kernel) rfl g455 h7 <|
  bb_geti (k := 28) (ci := 4) (j := 0) (idx := 140) (zd (i := .getfield 140) (n := 3) (by decide +kernel)) (by decide +kernel) (by decide +kernel) (by decide +kernel) (by decide +kernel) rfl g368 <|
  bb_callV (idx := 143) (k := o) (ci := 0) (N := n_X0_heat) (As := [.int (I 28 0)]) (st := [.int (I 28 0), .int a2, .int (I 29 a1.toNatClampNeg), .ref o]) (zd (i := .invokevirtual 143) (n := 3) (by decide +kernel)) to_X0_heat g716 g717 g718 (Nat.le_of_ble_eq_true rfl) (by rcases ho with rfl | rfl <;> decide +kernel) (by rcases ho with rfl | rfl <;> decide +kernel) (by decide +kernel) rfl rfl rfl hc (fun r I' L' R' hq => by obtain ⟨y, rfl, hp⟩ := hq; exact kk y I' L' R' hp)
theorem w_X8_worth_135 {Q : qQ} {I : qMI} {L : qML} {R : qMR} {o : Nat} (ho : o = 9 ∨ o = 259) {a1 : Int32} {a2 : Int32} {a3 : Int32} {a4 : Int32} {a5 : Int32} {s1 : Int32} {s2 : Int32} {s3 : Int32} {s4 : Int32} {P : Int32 → qMI → qML → qMR → Prop} (hc : wkCi l G d n_X0_isSeenFrom [.ref o, .int s1, .int s2, .int s3, .int s4] I L R P) (kk : ∀ y I' L' R', P y I' L' R' → wkB l G (d + 1) n_X8_worth Q 138 [.ref 0, .int a1, .int a2, .int a3, .int a4, .int a5, wkU] [.int y] I' L' R') : wkB l G (d + 1) n_X8_worth Q 135 [.ref 0, .int a1, .int a2, .int a3, .int a4, .int a5, wkU] [.int s4, .int s3, .int s2, .int s1, .ref o] I L R :=
  bb_callV (idx := 239) (k := o) (ci := 0) (N := n_X0_isSeenFrom) (As := [.int s1, .int s2, .int s3, .int s4]) (st := []) (zd (i := .invokevirtual 239) (n := 3) (by decide +kernel)) to_X0_isSeenFrom g745 g746 g747 (Nat.le_of_ble_eq_true rfl) (by rcases ho with rfl | rfl <;> decide +kernel) (by rcases ho with rfl | rfl <;> decide +kernel) (by decide +kernel) rfl rfl rfl hc (fun r I' L' R' hq => by obtain ⟨y, rfl, hp⟩ := hq; exact kk y I' L' R' hp)
theorem w_X8_worth_138 {Q : qQ} {I : qMI} {L : qML} {R : qMR} {a1 : Int32} {a2 : Int32} {a3 : Int32} {a4 : Int32} {a5 : Int32} {s0 : Int32} (h1 : R 0 3 = some 28) (h2 : R 28 4 = some 32) (h3 : vp_in a1 6) (kt : s0 = 0 → wkB l G (d + 1) n_X8_worth Q 167 [.ref 0, .int a1, .int a2, .int a3, .int a4, .int a5, .int s0] [.int (I 32 a1.toNatClampNeg)] I L R) (kf : ¬ s0 = 0 → wkB l G (d + 1) n_X8_worth Q 154 [.ref 0, .int a1, .int a2, .int a3, .int a4, .int a5, .int s0] [.int (I 32 a1.toNatClampNeg)] I L R) : wkB l G (d + 1) n_X8_worth Q 138 [.ref 0, .int a1, .int a2, .int a3, .int a4, .int a5, wkU] [.int s0] I L R :=
  bb_istore (i := 6) (zd (i := .istore 6) (n := 2) (by decide +kernel)) (by decide +kernel) (wkNl_i rfl) <|
  bb_aload_n (n := 0) (i := 0) (zd (i := .aload_n 0) (n := 1) (by decide +kernel)) rfl rfl <|
  bb_getr (k := 0) (ci := 8) (j := 3) (idx := 30) (a := 28) (zd (i := .getfield 30) (n := 3) (by decide +kernel)) (by decide +kernel) (by decide +kernel) (by decide +kernel) (by decide +kernel) rfl g455 h1 <|
  bb_getr (k := 28) (ci := 4) (j := 4) (idx := 159) (a := 32) (zd (i := .getfield 159) (n := 3) (by decide +kernel)) (by decide +kernel) (by decide +kernel) (by decide +kernel) (by decide +kernel) rfl g380 h2 <|
  bb_iload_n (n := 1) (i := 1) (zd (i := .iload_n 1) (n := 1) (by decide +kernel)) rfl rfl <|
  bb_lift (fun _ => q_iald (k := 32) (zd (i := .iaload) (n := 1) (by decide +kernel)) (by decide +kernel) (by decide +kernel) h3) <|
  bb_iload (i := 6) (zd (i := .iload 6) (n := 2) (by decide +kernel)) rfl <|
  (fun lv hl => q_if_eq (off := 16) (tgt := 167) (zd (i := .ifCond .eq (16)) (n := 3) (by decide +kernel)) (by decide) (fun h => (kt h) lv hl) (fun h => (kf h) lv hl))
theorem w_X8_worth_154 {Q : qQ} {I : qMI} {L : qML} {R : qMR} {a1 : Int32} {a2 : Int32} {a3 : Int32} {a4 : Int32} {a5 : Int32} {a6 : Int32} {s0 : Int32} (h1 : R 0 3 = some 28) (h2 : R 28 5 = some 33) (h3 : vp_in a5 36) (k : wkB l G (d + 1) n_X8_worth Q 168 [.ref 0, .int a1, .int a2, .int a3, .int a4, .int a5, .int a6] [.int (I 33 a5.toNatClampNeg), .int s0] I L R) : wkB l G (d + 1) n_X8_worth Q 154 [.ref 0, .int a1, .int a2, .int a3, .int a4, .int a5, .int a6] [.int s0] I L R :=
  bb_aload_n (n := 0) (i := 0) (zd (i := .aload_n 0) (n := 1) (by decide +kernel)) rfl rfl <|
  bb_getr (k := 0) (ci := 8) (j := 3) (idx := 30) (a := 28) (zd (i := .getfield 30) (n := 3) (by decide +kernel)) (by decide +kernel) (by decide +kernel) (by decide +kernel) (by decide +kernel) rfl g455 h1 <|
  bb_getr (k := 28) (ci := 4) (j := 5) (idx := 169) (a := 33) (zd (i := .getfield 169) (n := 3) (by decide +kernel)) (by decide +kernel) (by decide +kernel) (by decide +kernel) (by decide +kernel) rfl g383 h2 <|
  bb_iload (i := 5) (zd (i := .iload 5) (n := 2) (by decide +kernel)) rfl <|
  bb_lift (fun _ => q_iald (k := 33) (zd (i := .iaload) (n := 1) (by decide +kernel)) (by decide +kernel) (by decide +kernel) h3) <|
  bb_lift (fun _ => q_goto (off := 4) (tgt := 168) (zd (i := .goto (4)) (n := 3) (by decide +kernel)) (by decide)) k
theorem w_X8_worth_167 {Q : qQ} {I : qMI} {L : qML} {R : qMR} {a1 : Int32} {a2 : Int32} {a3 : Int32} {a4 : Int32} {a5 : Int32} {a6 : Int32} {s0 : Int32} (k : wkB l G (d + 1) n_X8_worth Q 168 [.ref 0, .int a1, .int a2, .int a3, .int a4, .int a5, .int a6] [.int 0, .int s0] I L R) : wkB l G (d + 1) n_X8_worth Q 167 [.ref 0, .int a1, .int a2, .int a3, .int a4, .int a5, .int a6] [.int s0] I L R :=
  bb_lift (fun _ => q_iconst (n := 0) (zd (i := .iconst (0)) (n := 1) (by decide +kernel)) rfl) <|
  k
theorem w_X8_worth_168 {Q : qQ} {I : qMI} {L : qML} {R : qMR} {a1 : Int32} {a2 : Int32} {a3 : Int32} {a4 : Int32} {a5 : Int32} {a6 : Int32} {s0 : Int32} {s1 : Int32} (hQ : Q (some (.int ((s0 + s1) - a3))) 336 I L R) : wkB l G (d + 1) n_X8_worth Q 168 [.ref 0, .int a1, .int a2, .int a3, .int a4, .int a5, .int a6] [.int s1, .int s0] I L R :=
  bb_lift (fun _ => q_iadd (zd (i := .iadd) (n := 1) (by decide +kernel))) <|
  bb_iload_n (n := 3) (i := 3) (zd (i := .iload_n 3) (n := 1) (by decide +kernel)) rfl rfl <|
  bb_lift (fun _ => q_isub (zd (i := .isub) (n := 1) (by decide +kernel))) <|
  (fun lv hl => q_iret (zd (i := .ireturn) (n := 1) (by decide +kernel)) rfl rfl (Nat.le_refl _) (Nat.le_refl _) hQ)
theorem w_X8_year_0 {Q : qQ} {I : qMI} {L : qML} {R : qMR} {a1 : Int32} {a2 : Int32} {a3 : Int32} {a4 : Int32} {P : Int32 → qMI → qML → qMR → Prop} (hc : wkCi l G d n_X8_isPair [.ref 0, .int a1, .int a2] I L R P) (kk : ∀ y I' L' R', P y I' L' R' → wkB l G (d + 1) n_X8_year Q 6 [.ref 0, .int a1, .int a2, .int a3, .int a4, wkU, wkU, wkU] [.int y] I' L' R') : wkB l G (d + 1) n_X8_year Q 0 [.ref 0, .int a1, .int a2, .int a3, .int a4, wkU, wkU, wkU] [] I L R :=
  bb_aload_n (n := 0) (i := 0) (zd (i := .aload_n 0) (n := 1) (by decide +kernel)) rfl rfl <|
  bb_iload_n (n := 1) (i := 1) (zd (i := .iload_n 1) (n := 1) (by decide +kernel)) rfl rfl <|
  bb_iload_n (n := 2) (i := 2) (zd (i := .iload_n 2) (n := 1) (by decide +kernel)) rfl rfl <|
  bb_callV (idx := 162) (k := 0) (ci := 8) (N := n_X8_isPair) (As := [.int a1, .int a2]) (st := []) (zd (i := .invokevirtual 162) (n := 3) (by decide +kernel)) to_X8_isPair g797 g799 g26 (Nat.le_of_ble_eq_true rfl) (by decide +kernel) (by decide +kernel) (by decide +kernel) rfl rfl rfl hc (fun r I' L' R' hq => by obtain ⟨y, rfl, hp⟩ := hq; exact kk y I' L' R' hp)
theorem w_X8_year_6 {Q : qQ} {I : qMI} {L : qML} {R : qMR} {a1 : Int32} {a2 : Int32} {a3 : Int32} {a4 : Int32} {s0 : Int32} (kt : s0 = 0 → wkB l G (d + 1) n_X8_year Q 29 [.ref 0, .int a1, .int a2, .int a3, .int a4, wkU, wkU, wkU] [] I L R) (kf : ¬ s0 = 0 → wkB l G (d + 1) n_X8_year Q 9 [.ref 0, .int a1, .int a2, .int a3, .int a4, wkU, wkU, wkU] [] I L R) : wkB l G (d + 1) n_X8_year Q 6 [.ref 0, .int a1, .int a2, .int a3, .int a4, wkU, wkU, wkU] [.int s0] I L R :=
  (fun lv hl => q_if_eq (off := 23) (tgt := 29) (zd (i := .ifCond .eq (23)) (n := 3) (by decide +kernel)) (by decide) (fun h => (kt h) lv hl) (fun h => (kf h) lv hl))
theorem w_X8_year_9 {Q : qQ} {I : qMI} {L : qML} {R : qMR} {a1 : Int32} {a2 : Int32} {a3 : Int32} {a4 : Int32} {P : Int32 → qMI → qML → qMR → Prop} (hc : wkCi l G d n_X8_isAhead [.int a3] I L R P) (kk : ∀ y I' L' R', P y I' L' R' → wkB l G (d + 1) n_X8_year Q 13 [.ref 0, .int a1, .int a2, .int a3, .int a4, wkU, wkU, wkU] [.int y] I' L' R') : wkB l G (d + 1) n_X8_year Q 9 [.ref 0, .int a1, .int a2, .int a3, .int a4, wkU, wkU, wkU] [] I L R :=
  bb_iload_n (n := 3) (i := 3) (zd (i := .iload_n 3) (n := 1) (by decide +kernel)) rfl rfl <|
  bb_callS (idx := 207) (N := n_X8_isAhead) (As := [.int a3]) (st := []) (zd (i := .invokestatic 207) (n := 3) (by decide +kernel)) to_X8_isAhead g862 g863 (Nat.le_of_ble_eq_true rfl) rfl rfl hc (fun r I' L' R' hq => by obtain ⟨y, rfl, hp⟩ := hq; exact kk y I' L' R' hp)
theorem w_X8_year_13 {Q : qQ} {I : qMI} {L : qML} {R : qMR} {a1 : Int32} {a2 : Int32} {a3 : Int32} {a4 : Int32} {s0 : Int32} (kt : s0 = 0 → wkB l G (d + 1) n_X8_year Q 29 [.ref 0, .int a1, .int a2, .int a3, .int a4, wkU, wkU, wkU] [] I L R) (kf : ¬ s0 = 0 → wkB l G (d + 1) n_X8_year Q 16 [.ref 0, .int a1, .int a2, .int a3, .int a4, wkU, wkU, wkU] [] I L R) : wkB l G (d + 1) n_X8_year Q 13 [.ref 0, .int a1, .int a2, .int a3, .int a4, wkU, wkU, wkU] [.int s0] I L R :=
  (fun lv hl => q_if_eq (off := 16) (tgt := 29) (zd (i := .ifCond .eq (16)) (n := 3) (by decide +kernel)) (by decide) (fun h => (kt h) lv hl) (fun h => (kf h) lv hl))
theorem w_X8_year_16 {Q : qQ} {I : qMI} {L : qML} {R : qMR} {a1 : Int32} {a2 : Int32} {a3 : Int32} {a4 : Int32} (kt : a4 < 1 → wkB l G (d + 1) n_X8_year Q 29 [.ref 0, .int a1, .int a2, .int a3, .int a4, wkU, wkU, wkU] [] I L R) (kf : ¬ a4 < 1 → wkB l G (d + 1) n_X8_year Q 22 [.ref 0, .int a1, .int a2, .int a3, .int a4, wkU, wkU, wkU] [] I L R) : wkB l G (d + 1) n_X8_year Q 16 [.ref 0, .int a1, .int a2, .int a3, .int a4, wkU, wkU, wkU] [] I L R :=
  bb_iload (i := 4) (zd (i := .iload 4) (n := 2) (by decide +kernel)) rfl <|
  bb_lift (fun _ => q_iconst (n := 1) (zd (i := .iconst (1)) (n := 1) (by decide +kernel)) rfl) <|
  (fun lv hl => q_icmp_lt (off := 10) (tgt := 29) (zd (i := .if_icmp .lt (10)) (n := 3) (by decide +kernel)) (by decide) (fun h => (kt h) lv hl) (fun h => (kf h) lv hl))
theorem w_X8_year_22 {Q : qQ} {I : qMI} {L : qML} {R : qMR} {a1 : Int32} {a2 : Int32} {a3 : Int32} {a4 : Int32} (kt : a4 ≤ 20 → wkB l G (d + 1) n_X8_year Q 31 [.ref 0, .int a1, .int a2, .int a3, .int a4, wkU, wkU, wkU] [] I L R) (kf : ¬ a4 ≤ 20 → wkB l G (d + 1) n_X8_year Q 29 [.ref 0, .int a1, .int a2, .int a3, .int a4, wkU, wkU, wkU] [] I L R) : wkB l G (d + 1) n_X8_year Q 22 [.ref 0, .int a1, .int a2, .int a3, .int a4, wkU, wkU, wkU] [] I L R :=
  bb_iload (i := 4) (zd (i := .iload 4) (n := 2) (by decide +kernel)) rfl <|
  bb_lift (fun _ => q_bipush (n := 20) (zd (i := .bipush (20)) (n := 2) (by decide +kernel)) rfl) <|
  (fun lv hl => q_icmp_le (off := 5) (tgt := 31) (zd (i := .if_icmp .le (5)) (n := 3) (by decide +kernel)) (by decide) (fun h => (kt h) lv hl) (fun h => (kf h) lv hl))
theorem w_X8_year_29 {Q : qQ} {I : qMI} {L : qML} {R : qMR} {a1 : Int32} {a2 : Int32} {a3 : Int32} {a4 : Int32} (hQ : Q (some (.int (-1))) 336 I L R) : wkB l G (d + 1) n_X8_year Q 29 [.ref 0, .int a1, .int a2, .int a3, .int a4, wkU, wkU, wkU] [] I L R :=
  bb_lift (fun _ => q_iconst (n := -1) (zd (i := .iconst (-1)) (n := 1) (by decide +kernel)) rfl) <|
  (fun lv hl => q_iret (zd (i := .ireturn) (n := 1) (by decide +kernel)) rfl rfl (Nat.le_refl _) (Nat.le_refl _) hQ)
theorem w_X8_year_31 {Q : qQ} {I : qMI} {L : qML} {R : qMR} {a1 : Int32} {a2 : Int32} {a3 : Int32} {a4 : Int32} {P : Int32 → qMI → qML → qMR → Prop} (hc : wkCi l G d n_X8_loanOf [.int a1, .int a2] I L R P) (kk : ∀ y I' L' R', P y I' L' R' → wkB l G (d + 1) n_X8_year Q 36 [.ref 0, .int a1, .int a2, .int a3, .int a4, wkU, wkU, wkU] [.int y] I' L' R') : wkB l G (d + 1) n_X8_year Q 31 [.ref 0, .int a1, .int a2, .int a3, .int a4, wkU, wkU, wkU] [] I L R :=
  bb_iload_n (n := 1) (i := 1) (zd (i := .iload_n 1) (n := 1) (by decide +kernel)) rfl rfl <|
  bb_iload_n (n := 2) (i := 2) (zd (i := .iload_n 2) (n := 1) (by decide +kernel)) rfl rfl <|
  bb_callS (idx := 166) (N := n_X8_loanOf) (As := [.int a1, .int a2]) (st := []) (zd (i := .invokestatic 166) (n := 3) (by decide +kernel)) to_X8_loanOf g764 g765 (Nat.le_of_ble_eq_true rfl) rfl rfl hc (fun r I' L' R' hq => by obtain ⟨y, rfl, hp⟩ := hq; exact kk y I' L' R' hp)
theorem w_X8_year_36 {Q : qQ} {I : qMI} {L : qML} {R : qMR} {a1 : Int32} {a2 : Int32} {a3 : Int32} {a4 : Int32} {s0 : Int32} (k : wkB l G (d + 1) n_X8_year Q 44 [.ref 0, .int a1, .int a2, .int a3, .int a4, .int s0, .int 0, .int 0] [] I L R) : wkB l G (d + 1) n_X8_year Q 36 [.ref 0, .int a1, .int a2, .int a3, .int a4, wkU, wkU, wkU] [.int s0] I L R :=
  bb_istore (i := 5) (zd (i := .istore 5) (n := 2) (by decide +kernel)) (by decide +kernel) (wkNl_i rfl) <|
  bb_lift (fun _ => q_iconst (n := 0) (zd (i := .iconst (0)) (n := 1) (by decide +kernel)) rfl) <|
  bb_istore (i := 6) (zd (i := .istore 6) (n := 2) (by decide +kernel)) (by decide +kernel) (wkNl_i rfl) <|
  bb_lift (fun _ => q_iconst (n := 0) (zd (i := .iconst (0)) (n := 1) (by decide +kernel)) rfl) <|
  bb_istore (i := 7) (zd (i := .istore 7) (n := 2) (by decide +kernel)) (by decide +kernel) (wkNl_i rfl) <|
  k
theorem w_X8_year_44 {Q : qQ} {I : qMI} {L : qML} {R : qMR} {a1 : Int32} {a2 : Int32} {a3 : Int32} {a4 : Int32} {a5 : Int32} {a6 : Int32} {a7 : Int32} (kt : a4 ≤ a7 → wkB l G (d + 1) n_X8_year Q 142 [.ref 0, .int a1, .int a2, .int a3, .int a4, .int a5, .int a6, .int a7] [] I L R) (kf : ¬ a4 ≤ a7 → wkB l G (d + 1) n_X8_year Q 51 [.ref 0, .int a1, .int a2, .int a3, .int a4, .int a5, .int a6, .int a7] [] I L R) : wkB l G (d + 1) n_X8_year Q 44 [.ref 0, .int a1, .int a2, .int a3, .int a4, .int a5, .int a6, .int a7] [] I L R :=
  bb_iload (i := 7) (zd (i := .iload 7) (n := 2) (by decide +kernel)) rfl <|
  bb_iload (i := 4) (zd (i := .iload 4) (n := 2) (by decide +kernel)) rfl <|
  (fun lv hl => q_icmp_ge (off := 94) (tgt := 142) (zd (i := .if_icmp .ge (94)) (n := 3) (by decide +kernel)) (by decide) (fun h => (kt h) lv hl) (fun h => (kf h) lv hl))
theorem w_X8_year_51 {Q : qQ} {I : qMI} {L : qML} {R : qMR} {a1 : Int32} {a2 : Int32} {a3 : Int32} {a4 : Int32} {a5 : Int32} {a6 : Int32} {a7 : Int32} (h1 : R 0 2 = some 21) (h2 : R 21 5 = some 26) (h3 : vp_in a5 36) (kt : (I 26 a5.toNatClampNeg) = 0 → wkB l G (d + 1) n_X8_year Q 142 [.ref 0, .int a1, .int a2, .int a3, .int a4, .int a5, .int a6, .int a7] [] I L R) (kf : ¬ (I 26 a5.toNatClampNeg) = 0 → wkB l G (d + 1) n_X8_year Q 64 [.ref 0, .int a1, .int a2, .int a3, .int a4, .int a5, .int a6, .int a7] [] I L R) : wkB l G (d + 1) n_X8_year Q 51 [.ref 0, .int a1, .int a2, .int a3, .int a4, .int a5, .int a6, .int a7] [] I L R :=
  bb_aload_n (n := 0) (i := 0) (zd (i := .aload_n 0) (n := 1) (by decide +kernel)) rfl rfl <|
  bb_getr (k := 0) (ci := 8) (j := 2) (idx := 26) (a := 21) (zd (i := .getfield 26) (n := 3) (by decide +kernel)) (by decide +kernel) (by decide +kernel) (by decide +kernel) (by decide +kernel) rfl g454 h1 <|
  bb_getr (k := 21) (ci := 4) (j := 5) (idx := 169) (a := 26) (zd (i := .getfield 169) (n := 3) (by decide +kernel)) (by decide +kernel) (by decide +kernel) (by decide +kernel) (by decide +kernel) rfl g383 h2 <|
  bb_iload (i := 5) (zd (i := .iload 5) (n := 2) (by decide +kernel)) rfl <|
  bb_lift (fun _ => q_iald (k := 26) (zd (i := .iaload) (n := 1) (by decide +kernel)) (by decide +kernel) (by decide +kernel) h3) <|
  (fun lv hl => q_if_eq (off := 81) (tgt := 142) (zd (i := .ifCond .eq (81)) (n := 3) (by decide +kernel)) (by decide) (fun h => (kt h) lv hl) (fun h => (kf h) lv hl))
theorem w_X8_year_64 {Q : qQ} {I : qMI} {L : qML} {R : qMR} {a1 : Int32} {a2 : Int32} {a3 : Int32} {a4 : Int32} {a5 : Int32} {a6 : Int32} {a7 : Int32} (h1 : R 0 3 = some 28) (h2 : R 0 2 = some 21) {P : qMI → qML → qMR → Prop} (hc : wkCv l G d n_X4_copy [.ref 28, .ref 21] I L R P) (kk : ∀ I' L' R', P I' L' R' → wkB l G (d + 1) n_X8_year Q 75 [.ref 0, .int a1, .int a2, .int a3, .int a4, .int a5, .int a6, .int a7] [] I' L' R') : wkB l G (d + 1) n_X8_year Q 64 [.ref 0, .int a1, .int a2, .int a3, .int a4, .int a5, .int a6, .int a7] [] I L R :=
  bb_aload_n (n := 0) (i := 0) (zd (i := .aload_n 0) (n := 1) (by decide +kernel)) rfl rfl <|
  bb_getr (k := 0) (ci := 8) (j := 3) (idx := 30) (a := 28) (zd (i := .getfield 30) (n := 3) (by decide +kernel)) (by decide +kernel) (by decide +kernel) (by decide +kernel) (by decide +kernel) rfl g455 h1 <|
  bb_aload_n (n := 0) (i := 0) (zd (i := .aload_n 0) (n := 1) (by decide +kernel)) rfl rfl <|
  bb_getr (k := 0) (ci := 8) (j := 2) (idx := 26) (a := 21) (zd (i := .getfield 26) (n := 3) (by decide +kernel)) (by decide +kernel) (by decide +kernel) (by decide +kernel) (by decide +kernel) rfl g454 h2 <|
  bb_callV (idx := 258) (k := 28) (ci := 4) (N := n_X4_copy) (As := [.ref 21]) (st := []) (zd (i := .invokevirtual 258) (n := 3) (by decide +kernel)) to_X4_copy g956 g841 g842 (Nat.le_of_ble_eq_true rfl) (by decide +kernel) (by decide +kernel) (by decide +kernel) rfl rfl rfl hc (fun r I' L' R' hq => by obtain ⟨rfl, hp⟩ := hq; exact kk I' L' R' hp)
theorem w_X8_year_75 {Q : qQ} {I : qMI} {L : qML} {R : qMR} {a1 : Int32} {a2 : Int32} {a3 : Int32} {a4 : Int32} {a5 : Int32} {a6 : Int32} {a7 : Int32} (h1 : R 0 3 = some 28) {P : qMI → qML → qMR → Prop} (hc : wkCv l G d n_X4_keepOnly [.ref 28, .int a5] I L R P) (kk : ∀ I' L' R', P I' L' R' → wkB l G (d + 1) n_X8_year Q 84 [.ref 0, .int a1, .int a2, .int a3, .int a4, .int a5, .int a6, .int a7] [] I' L' R') : wkB l G (d + 1) n_X8_year Q 75 [.ref 0, .int a1, .int a2, .int a3, .int a4, .int a5, .int a6, .int a7] [] I L R :=
  bb_aload_n (n := 0) (i := 0) (zd (i := .aload_n 0) (n := 1) (by decide +kernel)) rfl rfl <|
  bb_getr (k := 0) (ci := 8) (j := 3) (idx := 30) (a := 28) (zd (i := .getfield 30) (n := 3) (by decide +kernel)) (by decide +kernel) (by decide +kernel) (by decide +kernel) (by decide +kernel) rfl g455 h1 <|
  bb_iload (i := 5) (zd (i := .iload 5) (n := 2) (by decide +kernel)) rfl <|
  bb_callV (idx := 279) (k := 28) (ci := 4) (N := n_X4_keepOnly) (As := [.int a5]) (st := []) (zd (i := .invokevirtual 279) (n := 3) (by decide +kernel)) to_X4_keepOnly g986 g689 g690 (Nat.le_of_ble_eq_true rfl) (by decide +kernel) (by decide +kernel) (by decide +kernel) rfl rfl rfl hc (fun r I' L' R' hq => by obtain ⟨rfl, hp⟩ := hq; exact kk I' L' R' hp)
theorem w_X8_year_84 {Q : qQ} {I : qMI} {L : qML} {R : qMR} {o : Nat} (ho : o = 9 ∨ o = 259) {a1 : Int32} {a2 : Int32} {a3 : Int32} {a4 : Int32} {a5 : Int32} {a6 : Int32} {a7 : Int32} (h1 : R 0 12 = some o) (h2 : R 0 3 = some 28) (h3 : R 0 12 = some o) (h4 : R 0 12 = some o) {P : qMI → qML → qMR → Prop} (hc : wkCv l G d n_X0_pass [.ref o, .ref 28, .int a3, .int ((I o 11) + a7), .int (I o 9)] I L R P) (kk : ∀ I' L' R', P I' L' R' → wkB l G (d + 1) n_X8_year Q 113 [.ref 0, .int a1, .int a2, .int a3, .int a4, .int a5, .int a6, .int a7] [] I' L' R') : wkB l G (d + 1) n_X8_year Q 84 [.ref 0, .int a1, .int a2, .int a3, .int a4, .int a5, .int a6, .int a7] [] I L R :=
  bb_aload_n (n := 0) (i := 0) (zd (i := .aload_n 0) (n := 1) (by decide +kernel)) rfl rfl <|
  bb_getr (k := 0) (ci := 8) (j := 12) (idx := 71) (a := o) (zd (i := .getfield 71) (n := 3) (by decide +kernel)) (by decide +kernel) (by decide +kernel) (by decide +kernel) (by decide +kernel) rfl g464 h1 <|
  bb_aload_n (n := 0) (i := 0) (zd (i := .aload_n 0) (n := 1) (by decide +kernel)) rfl rfl <|
  bb_getr (k := 0) (ci := 8) (j := 3) (idx := 30) (a := 28) (zd (i := .getfield 30) (n := 3) (by decide +kernel)) (by decide +kernel) (by decide +kernel) (by decide +kernel) (by decide +kernel) rfl g455 h2 <|
  bb_iload_n (n := 3) (i := 3) (zd (i := .iload_n 3) (n := 1) (by decide +kernel)) rfl rfl <|
  bb_aload_n (n := 0) (i := 0) (zd (i := .aload_n 0) (n := 1) (by decide +kernel)) rfl rfl <|
  bb_getr (k := 0) (ci := 8) (j := 12) (idx := 71) (a := o) (zd (i := .getfield 71) (n := 3) (by decide +kernel)) (by decide +kernel) (by decide +kernel) (by decide +kernel) (by decide +kernel) rfl g464 h3 <|
  bb_geti (k := o) (ci := 0) (j := 11) (idx := 210) (zd (i := .getfield 210) (n := 3) (by decide +kernel)) (by rcases ho with rfl | rfl <;> decide +kernel) (by rcases ho with rfl | rfl <;> decide +kernel) (by decide +kernel) (by decide +kernel) rfl g303 <|
  bb_iload (i := 7) (zd (i := .iload 7) (n := 2) (by decide +kernel)) rfl <|
  bb_lift (fun _ => q_iadd (zd (i := .iadd) (n := 1) (by decide +kernel))) <|
  bb_aload_n (n := 0) (i := 0) (zd (i := .aload_n 0) (n := 1) (by decide +kernel)) rfl rfl <|
  bb_getr (k := 0) (ci := 8) (j := 12) (idx := 71) (a := o) (zd (i := .getfield 71) (n := 3) (by decide +kernel)) (by decide +kernel) (by decide +kernel) (by decide +kernel) (by decide +kernel) rfl g464 h4 <|
  bb_geti (k := o) (ci := 0) (j := 9) (idx := 213) (zd (i := .getfield 213) (n := 3) (by decide +kernel)) (by rcases ho with rfl | rfl <;> decide +kernel) (by rcases ho with rfl | rfl <;> decide +kernel) (by decide +kernel) (by decide +kernel) rfl g297 <|
  bb_callV (idx := 216) (k := o) (ci := 0) (N := n_X0_pass) (As := [.ref 28, .int a3, .int ((I o 11) + a7), .int (I o 9)]) (st := []) (zd (i := .invokevirtual 216) (n := 3) (by decide +kernel)) to_X0_pass g865 g866 g867 (Nat.le_of_ble_eq_true rfl) (by rcases ho with rfl | rfl <;> decide +kernel) (by rcases ho with rfl | rfl <;> decide +kernel) (by decide +kernel) rfl rfl rfl hc (fun r I' L' R' hq => by obtain ⟨rfl, hp⟩ := hq; exact kk I' L' R' hp)
theorem w_X8_year_113 {Q : qQ} {I : qMI} {L : qML} {R : qMR} {a1 : Int32} {a2 : Int32} {a3 : Int32} {a4 : Int32} {a5 : Int32} {a6 : Int32} {a7 : Int32} (h1 : R 0 3 = some 28) (h2 : R 28 5 = some 33) (h3 : vp_in a5 36) (kt : (I 33 a5.toNatClampNeg) = 0 → wkB l G (d + 1) n_X8_year Q 132 [.ref 0, .int a1, .int a2, .int a3, .int a4, .int a5, .int a6, .int a7] [.int a6] I L R) (kf : ¬ (I 33 a5.toNatClampNeg) = 0 → wkB l G (d + 1) n_X8_year Q 128 [.ref 0, .int a1, .int a2, .int a3, .int a4, .int a5, .int a6, .int a7] [.int a6] I L R) : wkB l G (d + 1) n_X8_year Q 113 [.ref 0, .int a1, .int a2, .int a3, .int a4, .int a5, .int a6, .int a7] [] I L R :=
  bb_iload (i := 6) (zd (i := .iload 6) (n := 2) (by decide +kernel)) rfl <|
  bb_aload_n (n := 0) (i := 0) (zd (i := .aload_n 0) (n := 1) (by decide +kernel)) rfl rfl <|
  bb_getr (k := 0) (ci := 8) (j := 3) (idx := 30) (a := 28) (zd (i := .getfield 30) (n := 3) (by decide +kernel)) (by decide +kernel) (by decide +kernel) (by decide +kernel) (by decide +kernel) rfl g455 h1 <|
  bb_getr (k := 28) (ci := 4) (j := 5) (idx := 169) (a := 33) (zd (i := .getfield 169) (n := 3) (by decide +kernel)) (by decide +kernel) (by decide +kernel) (by decide +kernel) (by decide +kernel) rfl g383 h2 <|
  bb_iload (i := 5) (zd (i := .iload 5) (n := 2) (by decide +kernel)) rfl <|
  bb_lift (fun _ => q_iald (k := 33) (zd (i := .iaload) (n := 1) (by decide +kernel)) (by decide +kernel) (by decide +kernel) h3) <|
  (fun lv hl => q_if_eq (off := 7) (tgt := 132) (zd (i := .ifCond .eq (7)) (n := 3) (by decide +kernel)) (by decide) (fun h => (kt h) lv hl) (fun h => (kf h) lv hl))
theorem w_X8_year_128 {Q : qQ} {I : qMI} {L : qML} {R : qMR} {a1 : Int32} {a2 : Int32} {a3 : Int32} {a4 : Int32} {a5 : Int32} {a6 : Int32} {a7 : Int32} {s0 : Int32} (k : wkB l G (d + 1) n_X8_year Q 133 [.ref 0, .int a1, .int a2, .int a3, .int a4, .int a5, .int a6, .int a7] [.int 1, .int s0] I L R) : wkB l G (d + 1) n_X8_year Q 128 [.ref 0, .int a1, .int a2, .int a3, .int a4, .int a5, .int a6, .int a7] [.int s0] I L R :=
  bb_lift (fun _ => q_iconst (n := 1) (zd (i := .iconst (1)) (n := 1) (by decide +kernel)) rfl) <|
  bb_lift (fun _ => q_goto (off := 4) (tgt := 133) (zd (i := .goto (4)) (n := 3) (by decide +kernel)) (by decide)) k
theorem w_X8_year_132 {Q : qQ} {I : qMI} {L : qML} {R : qMR} {a1 : Int32} {a2 : Int32} {a3 : Int32} {a4 : Int32} {a5 : Int32} {a6 : Int32} {a7 : Int32} {s0 : Int32} (k : wkB l G (d + 1) n_X8_year Q 133 [.ref 0, .int a1, .int a2, .int a3, .int a4, .int a5, .int a6, .int a7] [.int 0, .int s0] I L R) : wkB l G (d + 1) n_X8_year Q 132 [.ref 0, .int a1, .int a2, .int a3, .int a4, .int a5, .int a6, .int a7] [.int s0] I L R :=
  bb_lift (fun _ => q_iconst (n := 0) (zd (i := .iconst (0)) (n := 1) (by decide +kernel)) rfl) <|
  k
theorem w_X8_year_133 {Q : qQ} {I : qMI} {L : qML} {R : qMR} {a1 : Int32} {a2 : Int32} {a3 : Int32} {a4 : Int32} {a5 : Int32} {a6 : Int32} {a7 : Int32} {s0 : Int32} {s1 : Int32} (k : wkB l G (d + 1) n_X8_year Q 44 [.ref 0, .int a1, .int a2, .int a3, .int a4, .int a5, .int (s0 + s1), .int (a7 + 1)] [] I L R) : wkB l G (d + 1) n_X8_year Q 133 [.ref 0, .int a1, .int a2, .int a3, .int a4, .int a5, .int a6, .int a7] [.int s1, .int s0] I L R :=
  bb_lift (fun _ => q_iadd (zd (i := .iadd) (n := 1) (by decide +kernel))) <|
  bb_istore (i := 6) (zd (i := .istore 6) (n := 2) (by decide +kernel)) (by decide +kernel) (wkNl_i rfl) <|
  bb_iinc (i := 7) (n := 1) (zd (i := .iinc 7 (1)) (n := 3) (by decide +kernel)) rfl rfl (by decide +kernel) (wkNl_i rfl) <|
  bb_lift (fun _ => q_goto (off := -95) (tgt := 44) (zd (i := .goto (-95)) (n := 3) (by decide +kernel)) (by decide)) k
theorem w_X8_year_142 {Q : qQ} {I : qMI} {L : qML} {R : qMR} {a1 : Int32} {a2 : Int32} {a3 : Int32} {a4 : Int32} {a5 : Int32} {a6 : Int32} {a7 : Int32} (hQ : Q (some (.int a6)) 336 I L R) : wkB l G (d + 1) n_X8_year Q 142 [.ref 0, .int a1, .int a2, .int a3, .int a4, .int a5, .int a6, .int a7] [] I L R :=
  bb_iload (i := 6) (zd (i := .iload 6) (n := 2) (by decide +kernel)) rfl <|
  (fun lv hl => q_iret (zd (i := .ireturn) (n := 1) (by decide +kernel)) rfl rfl (Nat.le_refl _) (Nat.le_refl _) hQ)
end
