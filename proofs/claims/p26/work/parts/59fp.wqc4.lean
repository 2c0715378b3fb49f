section
variable {l : Launch} {G : qG} {d : Nat}
theorem w_X8_stands_0 {Q : qQ} {I : qMI} {L : qML} {R : qMR} {a1 : Int32} {P : Int32 → qMI → qML → qMR → Prop} (hc : wkCi l G d n_X8_isKnown [.ref 0, .int a1] I L R P) (kk : ∀ y I' L' R', P y I' L' R' → wkB l G (d + 1) n_X8_stands Q 5 [.ref 0, .int a1] [.int y] I' L' R') : wkB l G (d + 1) n_X8_stands Q 0 [.ref 0, .int a1] [] I L R :=
  bb_aload_n (n := 0) (i := 0) (zd (i := .aload_n 0) (n := 1) (by decide +kernel)) rfl rfl <|
  bb_iload_n (n := 1) (i := 1) (zd (i := .iload_n 1) (n := 1) (by decide +kernel)) rfl rfl <|
  bb_callV (idx := 300) (k := 0) (ci := 8) (N := n_X8_isKnown) (As := [.int a1]) (st := []) (zd (i := .invokevirtual 300) (n := 3) (by decide +kernel)) to_X8_isKnown g1038 g1040 g37 (Nat.le_of_ble_eq_true rfl) (by decide +kernel) (by decide +kernel) (by decide +kernel) rfl rfl rfl hc (fun r I' L' R' hq => by obtain ⟨y, rfl, hp⟩ := hq; exact kk y I' L' R' hp)
theorem w_X8_stands_5 {Q : qQ} {I : qMI} {L : qML} {R : qMR} {a1 : Int32} {s0 : Int32} (kt : s0 = 0 → wkB l G (d + 1) n_X8_stands Q 23 [.ref 0, .int a1] [] I L R) (kf : ¬ s0 = 0 → wkB l G (d + 1) n_X8_stands Q 8 [.ref 0, .int a1] [] I L R) : wkB l G (d + 1) n_X8_stands Q 5 [.ref 0, .int a1] [.int s0] I L R :=
  (fun lv hl => q_if_eq (off := 18) (tgt := 23) (zd (i := .ifCond .eq (18)) (n := 3) (by decide +kernel)) (by decide) (fun h => (kt h) lv hl) (fun h => (kf h) lv hl))
theorem w_X8_stands_8 {Q : qQ} {I : qMI} {L : qML} {R : qMR} {o : Nat} (ho : o = 9 ∨ o = 259) {a1 : Int32} (h1 : R 0 7 = some 249) (h2 : R 0 12 = some o) {P : Int32 → qMI → qML → qMR → Prop} (hc : wkCi l G d n_X7_sift [.ref 249, .ref o, .int a1] I L R P) (kk : ∀ y I' L' R', P y I' L' R' → wkB l G (d + 1) n_X8_stands Q 20 [.ref 0, .int a1] [.int y] I' L' R') : wkB l G (d + 1) n_X8_stands Q 8 [.ref 0, .int a1] [] I L R :=
  bb_aload_n (n := 0) (i := 0) (zd (i := .aload_n 0) (n := 1) (by decide +kernel)) rfl rfl <|
  bb_getr (k := 0) (ci := 8) (j := 7) (idx := 51) (a := 249) (zd (i := .getfield 51) (n := 3) (by decide +kernel)) (by decide +kernel) (by decide +kernel) (by decide +kernel) (by decide +kernel) rfl g459 h1 <|
  bb_aload_n (n := 0) (i := 0) (zd (i := .aload_n 0) (n := 1) (by decide +kernel)) rfl rfl <|
  bb_getr (k := 0) (ci := 8) (j := 12) (idx := 71) (a := o) (zd (i := .getfield 71) (n := 3) (by decide +kernel)) (by decide +kernel) (by decide +kernel) (by decide +kernel) (by decide +kernel) rfl g464 h2 <|
  bb_iload_n (n := 1) (i := 1) (zd (i := .iload_n 1) (n := 1) (by decide +kernel)) rfl rfl <|
  bb_callV (idx := 303) (k := 249) (ci := 7) (N := n_X7_sift) (As := [.ref o, .int a1]) (st := []) (zd (i := .invokevirtual 303) (n := 3) (by decide +kernel)) to_X7_sift g1042 g1043 g1044 (Nat.le_of_ble_eq_true rfl) (by decide +kernel) (by decide +kernel) (by decide +kernel) rfl rfl rfl hc (fun r I' L' R' hq => by obtain ⟨y, rfl, hp⟩ := hq; exact kk y I' L' R' hp)
theorem w_X8_stands_20 {Q : qQ} {I : qMI} {L : qML} {R : qMR} {a1 : Int32} {s0 : Int32} (k : wkB l G (d + 1) n_X8_stands Q 24 [.ref 0, .int a1] [.int s0] I L R) : wkB l G (d + 1) n_X8_stands Q 20 [.ref 0, .int a1] [.int s0] I L R :=
  bb_lift (fun _ => q_goto (off := 4) (tgt := 24) (zd (i := .goto (4)) (n := 3) (by decide +kernel)) (by decide)) k
theorem w_X8_stands_23 {Q : qQ} {I : qMI} {L : qML} {R : qMR} {a1 : Int32} (k : wkB l G (d + 1) n_X8_stands Q 24 [.ref 0, .int a1] [.int (-1)] I L R) : wkB l G (d + 1) n_X8_stands Q 23 [.ref 0, .int a1] [] I L R :=
  bb_lift (fun _ => q_iconst (n := -1) (zd (i := .iconst (-1)) (n := 1) (by decide +kernel)) rfl) <|
  k
theorem w_X8_stands_24 {Q : qQ} {I : qMI} {L : qML} {R : qMR} {a1 : Int32} {s0 : Int32} (hQ : Q (some (.int s0)) 336 I L R) : wkB l G (d + 1) n_X8_stands Q 24 [.ref 0, .int a1] [.int s0] I L R :=
  (fun lv hl => q_iret (zd (i := .ireturn) (n := 1) (by decide +kernel)) rfl rfl (Nat.le_refl _) (Nat.le_refl _) hQ)
theorem w_X8_sure_0 {Q : qQ} {I : qMI} {L : qML} {R : qMR} {a1 : Int32} {a2 : Int32} {P : Int32 → qMI → qML → qMR → Prop} (hc : wkCi l G d n_X8_isKnown [.ref 0, .int a1] I L R P) (kk : ∀ y I' L' R', P y I' L' R' → wkB l G (d + 1) n_X8_sure Q 5 [.ref 0, .int a1, .int a2] [.int y] I' L' R') : wkB l G (d + 1) n_X8_sure Q 0 [.ref 0, .int a1, .int a2] [] I L R :=
  bb_aload_n (n := 0) (i := 0) (zd (i := .aload_n 0) (n := 1) (by decide +kernel)) rfl rfl <|
  bb_iload_n (n := 1) (i := 1) (zd (i := .iload_n 1) (n := 1) (by decide +kernel)) rfl rfl <|
  bb_callV (idx := 300) (k := 0) (ci := 8) (N := n_X8_isKnown) (As := [.int a1]) (st := []) (zd (i := .invokevirtual 300) (n := 3) (by decide +kernel)) to_X8_isKnown g1038 g1040 g37 (Nat.le_of_ble_eq_true rfl) (by decide +kernel) (by decide +kernel) (by decide +kernel) rfl rfl rfl hc (fun r I' L' R' hq => by obtain ⟨y, rfl, hp⟩ := hq; exact kk y I' L' R' hp)
theorem w_X8_sure_5 {Q : qQ} {I : qMI} {L : qML} {R : qMR} {a1 : Int32} {a2 : Int32} {s0 : Int32} (kt : s0 = 0 → wkB l G (d + 1) n_X8_sure Q 17 [.ref 0, .int a1, .int a2] [] I L R) (kf : ¬ s0 = 0 → wkB l G (d + 1) n_X8_sure Q 8 [.ref 0, .int a1, .int a2] [] I L R) : wkB l G (d + 1) n_X8_sure Q 5 [.ref 0, .int a1, .int a2] [.int s0] I L R :=
  (fun lv hl => q_if_eq (off := 12) (tgt := 17) (zd (i := .ifCond .eq (12)) (n := 3) (by decide +kernel)) (by decide) (fun h => (kt h) lv hl) (fun h => (kf h) lv hl))
theorem w_X8_sure_8 {Q : qQ} {I : qMI} {L : qML} {R : qMR} {a1 : Int32} {a2 : Int32} (kt : a2 < 0 → wkB l G (d + 1) n_X8_sure Q 17 [.ref 0, .int a1, .int a2] [] I L R) (kf : ¬ a2 < 0 → wkB l G (d + 1) n_X8_sure Q 12 [.ref 0, .int a1, .int a2] [] I L R) : wkB l G (d + 1) n_X8_sure Q 8 [.ref 0, .int a1, .int a2] [] I L R :=
  bb_iload_n (n := 2) (i := 2) (zd (i := .iload_n 2) (n := 1) (by decide +kernel)) rfl rfl <|
  (fun lv hl => q_if_lt (off := 8) (tgt := 17) (zd (i := .ifCond .lt (8)) (n := 3) (by decide +kernel)) (by decide) (fun h => (kt h) lv hl) (fun h => (kf h) lv hl))
theorem w_X8_sure_12 {Q : qQ} {I : qMI} {L : qML} {R : qMR} {a1 : Int32} {a2 : Int32} (kt : a2 ≤ 1 → wkB l G (d + 1) n_X8_sure Q 19 [.ref 0, .int a1, .int a2] [] I L R) (kf : ¬ a2 ≤ 1 → wkB l G (d + 1) n_X8_sure Q 17 [.ref 0, .int a1, .int a2] [] I L R) : wkB l G (d + 1) n_X8_sure Q 12 [.ref 0, .int a1, .int a2] [] I L R :=
  bb_iload_n (n := 2) (i := 2) (zd (i := .iload_n 2) (n := 1) (by decide +kernel)) rfl rfl <|
  bb_lift (fun _ => q_iconst (n := 1) (zd (i := .iconst (1)) (n := 1) (by decide +kernel)) rfl) <|
  (fun lv hl => q_icmp_le (off := 5) (tgt := 19) (zd (i := .if_icmp .le (5)) (n := 3) (by decide +kernel)) (by decide) (fun h => (kt h) lv hl) (fun h => (kf h) lv hl))
theorem w_X8_sure_17 {Q : qQ} {I : qMI} {L : qML} {R : qMR} {a1 : Int32} {a2 : Int32} (hQ : Q (some (.int (-1))) 336 I L R) : wkB l G (d + 1) n_X8_sure Q 17 [.ref 0, .int a1, .int a2] [] I L R :=
  bb_lift (fun _ => q_iconst (n := -1) (zd (i := .iconst (-1)) (n := 1) (by decide +kernel)) rfl) <|
  (fun lv hl => q_iret (zd (i := .ireturn) (n := 1) (by decide +kernel)) rfl rfl (Nat.le_refl _) (Nat.le_refl _) hQ)
theorem w_X8_sure_19 {Q : qQ} {I : qMI} {L : qML} {R : qMR} {o : Nat} (ho : o = 9 ∨ o = 259) {a1 : Int32} {a2 : Int32} (h1 : R 0 7 = some 249) (h2 : R 0 12 = some o) {P : Int32 → qMI → qML → qMR → Prop} (hc : wkCi l G d n_X7_sift [.ref 249, .ref o, .int a1] I L R P) (kk : ∀ y I' L' R', P y I' L' R' → wkB l G (d + 1) n_X8_sure Q 31 [.ref 0, .int a1, .int a2] [.int y] I' L' R') : wkB l G (d + 1) n_X8_sure Q 19 [.ref 0, .int a1, .int a2] [] I L R :=
  bb_aload_n (n := 0) (i := 0) (zd (i := .aload_n 0) (n := 1) (by decide +kernel)) rfl rfl <|
  bb_getr (k := 0) (ci := 8) (j := 7) (idx := 51) (a := 249) (zd (i := .getfield 51) (n := 3) (by decide +kernel)) (by decide +kernel) (by decide +kernel) (by decide +kernel) (by decide +kernel) rfl g459 h1 <|
  bb_aload_n (n := 0) (i := 0) (zd (i := .aload_n 0) (n := 1) (by decide +kernel)) rfl rfl <|
  bb_getr (k := 0) (ci := 8) (j := 12) (idx := 71) (a := o) (zd (i := .getfield 71) (n := 3) (by decide +kernel)) (by decide +kernel) (by decide +kernel) (by decide +kernel) (by decide +kernel) rfl g464 h2 <|
  bb_iload_n (n := 1) (i := 1) (zd (i := .iload_n 1) (n := 1) (by decide +kernel)) rfl rfl <|
  bb_callV (idx := 303) (k := 249) (ci := 7) (N := n_X7_sift) (As := [.ref o, .int a1]) (st := []) (zd (i := .invokevirtual 303) (n := 3) (by decide +kernel)) to_X7_sift g1042 g1043 g1044 (Nat.le_of_ble_eq_true rfl) (by decide +kernel) (by decide +kernel) (by decide +kernel) rfl rfl rfl hc (fun r I' L' R' hq => by obtain ⟨y, rfl, hp⟩ := hq; exact kk y I' L' R' hp)
theorem w_X8_sure_31 {Q : qQ} {I : qMI} {L : qML} {R : qMR} {a1 : Int32} {a2 : Int32} {s0 : Int32} (h1 : R 0 7 = some 249) (kt : ¬ a2 = 0 → wkB l G (d + 1) n_X8_sure Q 44 [.ref 0, .int a1, .int a2] [.ref 249] I L R) (kf : a2 = 0 → wkB l G (d + 1) n_X8_sure Q 40 [.ref 0, .int a1, .int a2] [.ref 249] I L R) : wkB l G (d + 1) n_X8_sure Q 31 [.ref 0, .int a1, .int a2] [.int s0] I L R :=
  bb_lift (fun _ => q_pop (zd (i := .pop) (n := 1) (by decide +kernel)) rfl) <|
  bb_aload_n (n := 0) (i := 0) (zd (i := .aload_n 0) (n := 1) (by decide +kernel)) rfl rfl <|
  bb_getr (k := 0) (ci := 8) (j := 7) (idx := 51) (a := 249) (zd (i := .getfield 51) (n := 3) (by decide +kernel)) (by decide +kernel) (by decide +kernel) (by decide +kernel) (by decide +kernel) rfl g459 h1 <|
  bb_iload_n (n := 2) (i := 2) (zd (i := .iload_n 2) (n := 1) (by decide +kernel)) rfl rfl <|
  (fun lv hl => q_if_ne (off := 7) (tgt := 44) (zd (i := .ifCond .ne (7)) (n := 3) (by decide +kernel)) (by decide) (fun h => (kt h) lv hl) (fun h => (kf h) lv hl))
theorem w_X8_sure_40 {Q : qQ} {I : qMI} {L : qML} {R : qMR} {a1 : Int32} {a2 : Int32} (k : wkB l G (d + 1) n_X8_sure Q 45 [.ref 0, .int a1, .int a2] [.int 1, .ref 249] I L R) : wkB l G (d + 1) n_X8_sure Q 40 [.ref 0, .int a1, .int a2] [.ref 249] I L R :=
  bb_lift (fun _ => q_iconst (n := 1) (zd (i := .iconst (1)) (n := 1) (by decide +kernel)) rfl) <|
  bb_lift (fun _ => q_goto (off := 4) (tgt := 45) (zd (i := .goto (4)) (n := 3) (by decide +kernel)) (by decide)) k
theorem w_X8_sure_44 {Q : qQ} {I : qMI} {L : qML} {R : qMR} {a1 : Int32} {a2 : Int32} (k : wkB l G (d + 1) n_X8_sure Q 45 [.ref 0, .int a1, .int a2] [.int 0, .ref 249] I L R) : wkB l G (d + 1) n_X8_sure Q 44 [.ref 0, .int a1, .int a2] [.ref 249] I L R :=
  bb_lift (fun _ => q_iconst (n := 0) (zd (i := .iconst (0)) (n := 1) (by decide +kernel)) rfl) <|
  k
theorem w_X8_sure_45 {Q : qQ} {I : qMI} {L : qML} {R : qMR} {a1 : Int32} {a2 : Int32} {s1 : Int32} {P : Int32 → qMI → qML → qMR → Prop} (hc : wkCi l G d n_X7_common [.ref 249, .int s1] I L R P) (kk : ∀ y I' L' R', P y I' L' R' → wkB l G (d + 1) n_X8_sure Q 48 [.ref 0, .int a1, .int a2] [.int y] I' L' R') : wkB l G (d + 1) n_X8_sure Q 45 [.ref 0, .int a1, .int a2] [.int s1, .ref 249] I L R :=
  bb_callV (idx := 307) (k := 249) (ci := 7) (N := n_X7_common) (As := [.int s1]) (st := []) (zd (i := .invokevirtual 307) (n := 3) (by decide +kernel)) to_X7_common g1063 g1064 g1065 (Nat.le_of_ble_eq_true rfl) (by decide +kernel) (by decide +kernel) (by decide +kernel) rfl rfl rfl hc (fun r I' L' R' hq => by obtain ⟨y, rfl, hp⟩ := hq; exact kk y I' L' R' hp)
theorem w_X8_sure_48 {Q : qQ} {I : qMI} {L : qML} {R : qMR} {a1 : Int32} {a2 : Int32} {s0 : Int32} (hQ : Q (some (.int s0)) 336 I L R) : wkB l G (d + 1) n_X8_sure Q 48 [.ref 0, .int a1, .int a2] [.int s0] I L R :=
  (fun lv hl => q_iret (zd (i := .ireturn) (n := 1) (by decide +kernel)) rfl rfl (Nat.le_refl _) (Nat.le_refl _) hQ)
theorem w_X8_look_0 {Q : qQ} {I : qMI} {L : qML} {R : qMR} {a1 : Int32} {a2 : Int32} {P : Int32 → qMI → qML → qMR → Prop} (hc : wkCi l G d n_X8_isKnown [.ref 0, .int a1] I L R P) (kk : ∀ y I' L' R', P y I' L' R' → wkB l G (d + 1) n_X8_look Q 5 [.ref 0, .int a1, .int a2] [.int y] I' L' R') : wkB l G (d + 1) n_X8_look Q 0 [.ref 0, .int a1, .int a2] [] I L R :=
  bb_aload_n (n := 0) (i := 0) (zd (i := .aload_n 0) (n := 1) (by decide +kernel)) rfl rfl <|
  bb_iload_n (n := 1) (i := 1) (zd (i := .iload_n 1) (n := 1) (by decide +kernel)) rfl rfl <|
  bb_callV (idx := 300) (k := 0) (ci := 8) (N := n_X8_isKnown) (As := [.int a1]) (st := []) (zd (i := .invokevirtual 300) (n := 3) (by decide +kernel)) to_X8_isKnown g1038 g1040 g37 (Nat.le_of_ble_eq_true rfl) (by decide +kernel) (by decide +kernel) (by decide +kernel) rfl rfl rfl hc (fun r I' L' R' hq => by obtain ⟨y, rfl, hp⟩ := hq; exact kk y I' L' R' hp)
theorem w_X8_look_5 {Q : qQ} {I : qMI} {L : qML} {R : qMR} {a1 : Int32} {a2 : Int32} {s0 : Int32} (kt : s0 = 0 → wkB l G (d + 1) n_X8_look Q 18 [.ref 0, .int a1, .int a2] [] I L R) (kf : ¬ s0 = 0 → wkB l G (d + 1) n_X8_look Q 8 [.ref 0, .int a1, .int a2] [] I L R) : wkB l G (d + 1) n_X8_look Q 5 [.ref 0, .int a1, .int a2] [.int s0] I L R :=
  (fun lv hl => q_if_eq (off := 13) (tgt := 18) (zd (i := .ifCond .eq (13)) (n := 3) (by decide +kernel)) (by decide) (fun h => (kt h) lv hl) (fun h => (kf h) lv hl))
theorem w_X8_look_8 {Q : qQ} {I : qMI} {L : qML} {R : qMR} {a1 : Int32} {a2 : Int32} (kt : a2 < 0 → wkB l G (d + 1) n_X8_look Q 18 [.ref 0, .int a1, .int a2] [] I L R) (kf : ¬ a2 < 0 → wkB l G (d + 1) n_X8_look Q 12 [.ref 0, .int a1, .int a2] [] I L R) : wkB l G (d + 1) n_X8_look Q 8 [.ref 0, .int a1, .int a2] [] I L R :=
  bb_iload_n (n := 2) (i := 2) (zd (i := .iload_n 2) (n := 1) (by decide +kernel)) rfl rfl <|
  (fun lv hl => q_if_lt (off := 9) (tgt := 18) (zd (i := .ifCond .lt (9)) (n := 3) (by decide +kernel)) (by decide) (fun h => (kt h) lv hl) (fun h => (kf h) lv hl))
theorem w_X8_look_12 {Q : qQ} {I : qMI} {L : qML} {R : qMR} {a1 : Int32} {a2 : Int32} (kt : a2 ≤ 24 → wkB l G (d + 1) n_X8_look Q 20 [.ref 0, .int a1, .int a2] [] I L R) (kf : ¬ a2 ≤ 24 → wkB l G (d + 1) n_X8_look Q 18 [.ref 0, .int a1, .int a2] [] I L R) : wkB l G (d + 1) n_X8_look Q 12 [.ref 0, .int a1, .int a2] [] I L R :=
  bb_iload_n (n := 2) (i := 2) (zd (i := .iload_n 2) (n := 1) (by decide +kernel)) rfl rfl <|
  bb_lift (fun _ => q_bipush (n := 24) (zd (i := .bipush (24)) (n := 2) (by decide +kernel)) rfl) <|
  (fun lv hl => q_icmp_le (off := 5) (tgt := 20) (zd (i := .if_icmp .le (5)) (n := 3) (by decide +kernel)) (by decide) (fun h => (kt h) lv hl) (fun h => (kf h) lv hl))
theorem w_X8_look_18 {Q : qQ} {I : qMI} {L : qML} {R : qMR} {a1 : Int32} {a2 : Int32} (hQ : Q (some (.int (-1))) 336 I L R) : wkB l G (d + 1) n_X8_look Q 18 [.ref 0, .int a1, .int a2] [] I L R :=
  bb_lift (fun _ => q_iconst (n := -1) (zd (i := .iconst (-1)) (n := 1) (by decide +kernel)) rfl) <|
  (fun lv hl => q_iret (zd (i := .ireturn) (n := 1) (by decide +kernel)) rfl rfl (Nat.le_refl _) (Nat.le_refl _) hQ)
theorem w_X8_look_20 {Q : qQ} {I : qMI} {L : qML} {R : qMR} {o : Nat} (ho : o = 9 ∨ o = 259) {a1 : Int32} {a2 : Int32} (h1 : R 0 7 = some 249) (h2 : R 0 12 = some o) {P : Int32 → qMI → qML → qMR → Prop} (hc : wkCi l G d n_X7_sift [.ref 249, .ref o, .int a1] I L R P) (kk : ∀ y I' L' R', P y I' L' R' → wkB l G (d + 1) n_X8_look Q 32 [.ref 0, .int a1, .int a2] [.int y] I' L' R') : wkB l G (d + 1) n_X8_look Q 20 [.ref 0, .int a1, .int a2] [] I L R :=
  bb_aload_n (n := 0) (i := 0) (zd (i := .aload_n 0) (n := 1) (by decide +kernel)) rfl rfl <|
  bb_getr (k := 0) (ci := 8) (j := 7) (idx := 51) (a := 249) (zd (i := .getfield 51) (n := 3) (by decide +kernel)) (by decide +kernel) (by decide +kernel) (by decide +kernel) (by decide +kernel) rfl g459 h1 <|
  bb_aload_n (n := 0) (i := 0) (zd (i := .aload_n 0) (n := 1) (by decide +kernel)) rfl rfl <|
  bb_getr (k := 0) (ci := 8) (j := 12) (idx := 71) (a := o) (zd (i := .getfield 71) (n := 3) (by decide +kernel)) (by decide +kernel) (by decide +kernel) (by decide +kernel) (by decide +kernel) rfl g464 h2 <|
  bb_iload_n (n := 1) (i := 1) (zd (i := .iload_n 1) (n := 1) (by decide +kernel)) rfl rfl <|
  bb_callV (idx := 303) (k := 249) (ci := 7) (N := n_X7_sift) (As := [.ref o, .int a1]) (st := []) (zd (i := .invokevirtual 303) (n := 3) (by decide +kernel)) to_X7_sift g1042 g1043 g1044 (Nat.le_of_ble_eq_true rfl) (by decide +kernel) (by decide +kernel) (by decide +kernel) rfl rfl rfl hc (fun r I' L' R' hq => by obtain ⟨y, rfl, hp⟩ := hq; exact kk y I' L' R' hp)
theorem w_X8_look_32 {Q : qQ} {I : qMI} {L : qML} {R : qMR} {a1 : Int32} {a2 : Int32} {s0 : Int32} (kt : ¬ s0 = 0 → wkB l G (d + 1) n_X8_look Q 40 [.ref 0, .int a1, .int a2] [] I L R) (kf : s0 = 0 → wkB l G (d + 1) n_X8_look Q 35 [.ref 0, .int a1, .int a2] [] I L R) : wkB l G (d + 1) n_X8_look Q 32 [.ref 0, .int a1, .int a2] [.int s0] I L R :=
  (fun lv hl => q_if_ne (off := 8) (tgt := 40) (zd (i := .ifCond .ne (8)) (n := 3) (by decide +kernel)) (by decide) (fun h => (kt h) lv hl) (fun h => (kf h) lv hl))
theorem w_X8_look_35 {Q : qQ} {I : qMI} {L : qML} {R : qMR} {a1 : Int32} {a2 : Int32} (k : wkB l G (d + 1) n_X8_look Q 60 [.ref 0, .int a1, .int a2] [.int (-2)] I L R) : wkB l G (d + 1) n_X8_look Q 35 [.ref 0, .int a1, .int a2] [] I L R :=
  bb_lift (fun _ => q_bipush (n := -2) (zd (i := .bipush (-2)) (n := 2) (by decide +kernel)) rfl) <|
  bb_lift (fun _ => q_goto (off := 23) (tgt := 60) (zd (i := .goto (23)) (n := 3) (by decide +kernel)) (by decide)) k
theorem w_X8_look_40 {Q : qQ} {I : qMI} {L : qML} {R : qMR} {o : Nat} (ho : o = 9 ∨ o = 259) {a1 : Int32} {a2 : Int32} (h1 : R 0 7 = some 249) (h2 : R 0 12 = some o) (h3 : R 0 2 = some 21) {P : Int32 → qMI → qML → qMR → Prop} (hc : wkCi l G d n_X7_lookFrom [.ref 249, .ref o, .int ((I 21 0) + a2)] I L R P) (kk : ∀ y I' L' R', P y I' L' R' → wkB l G (d + 1) n_X8_look Q 60 [.ref 0, .int a1, .int a2] [.int y] I' L' R') : wkB l G (d + 1) n_X8_look Q 40 [.ref 0, .int a1, .int a2] [] I L R :=
  bb_aload_n (n := 0) (i := 0) (zd (i := .aload_n 0) (n := 1) (by decide +kernel)) rfl rfl <|
  bb_getr (k := 0) (ci := 8) (j := 7) (idx := 51) (a := 249) (zd (i := .getfield 51) (n := 3) (by decide +kernel)) (by decide +kernel) (by decide +kernel) (by decide +kernel) (by decide +kernel) rfl g459 h1 <|
  bb_aload_n (n := 0) (i := 0) (zd (i := .aload_n 0) (n := 1) (by decide +kernel)) rfl rfl <|
  bb_getr (k := 0) (ci := 8) (j := 12) (idx := 71) (a := o) (zd (i := .getfield 71) (n := 3) (by decide +kernel)) (by decide +kernel) (by decide +kernel) (by decide +kernel) (by decide +kernel) rfl g464 h2 <|
  bb_aload_n (n := 0) (i := 0) (zd (i := .aload_n 0) (n := 1) (by decide +kernel)) rfl rfl <|
  bb_getr (k := 0) (ci := 8) (j := 2) (idx := 26) (a := 21) (zd (i := .getfield 26) (n := 3) (by decide +kernel)) (by decide +kernel) (by decide +kernel) (by decide +kernel) (by decide +kernel) rfl g454 h3 <|
  bb_geti (k := 21) (ci := 4) (j := 0) (idx := 140) (zd (i := .getfield 140) (n := 3) (by decide +kernel)) (by decide +kernel) (by decide +kernel) (by decide +kernel) (by decide +kernel) rfl g368 <|
  bb_iload_n (n := 2) (i := 2) (zd (i := .iload_n 2) (n := 1) (by decide +kernel)) rfl rfl <|
  bb_lift (fun _ => q_iadd (zd (i := .iadd) (n := 1) (by decide +kernel))) <|
  bb_callV (idx := 311) (k := 249) (ci := 7) (N := n_X7_lookFrom) (As := [.ref o, .int ((I 21 0) + a2)]) (st := []) (zd (i := .invokevirtual 311) (n := 3) (by decide +kernel)) to_X7_lookFrom g1071 g1072 g1073 (Nat.le_of_ble_eq_true rfl) (by decide +kernel) (by decide +kernel) (by decide +kernel) rfl rfl rfl hc (fun r I' L' R' hq => by obtain ⟨y, rfl, hp⟩ := hq; exact kk y I' L' R' hp)
theorem w_X8_look_60 {Q : qQ} {I : qMI} {L : qML} {R : qMR} {a1 : Int32} {a2 : Int32} {s0 : Int32} (hQ : Q (some (.int s0)) 336 I L R) : wkB l G (d + 1) n_X8_look Q 60 [.ref 0, .int a1, .int a2] [.int s0] I L R :=
  (fun lv hl => q_iret (zd (i := .ireturn) (n := 1) (by decide +kernel)) rfl rfl (Nat.le_refl _) (Nat.le_refl _) hQ)
theorem w_X8_isKnown_0 {Q : qQ} {I : qMI} {L : qML} {R : qMR} {a1 : Int32} (kt : a1 < 0 → wkB l G (d + 1) n_X8_isKnown Q 19 [.ref 0, .int a1] [] I L R) (kf : ¬ a1 < 0 → wkB l G (d + 1) n_X8_isKnown Q 4 [.ref 0, .int a1] [] I L R) : wkB l G (d + 1) n_X8_isKnown Q 0 [.ref 0, .int a1] [] I L R :=
  bb_iload_n (n := 1) (i := 1) (zd (i := .iload_n 1) (n := 1) (by decide +kernel)) rfl rfl <|
  (fun lv hl => q_if_lt (off := 18) (tgt := 19) (zd (i := .ifCond .lt (18)) (n := 3) (by decide +kernel)) (by decide) (fun h => (kt h) lv hl) (fun h => (kf h) lv hl))
theorem w_X8_isKnown_4 {Q : qQ} {I : qMI} {L : qML} {R : qMR} {a1 : Int32} (h1 : R 0 7 = some 249) (kt : (I 249 0) < a1 → wkB l G (d + 1) n_X8_isKnown Q 19 [.ref 0, .int a1] [] I L R) (kf : ¬ (I 249 0) < a1 → wkB l G (d + 1) n_X8_isKnown Q 15 [.ref 0, .int a1] [] I L R) : wkB l G (d + 1) n_X8_isKnown Q 4 [.ref 0, .int a1] [] I L R :=
  bb_iload_n (n := 1) (i := 1) (zd (i := .iload_n 1) (n := 1) (by decide +kernel)) rfl rfl <|
  bb_aload_n (n := 0) (i := 0) (zd (i := .aload_n 0) (n := 1) (by decide +kernel)) rfl rfl <|
  bb_getr (k := 0) (ci := 8) (j := 7) (idx := 51) (a := 249) (zd (i := .getfield 51) (n := 3) (by decide +kernel)) (by decide +kernel) (by decide +kernel) (by decide +kernel) (by decide +kernel) rfl g459 h1 <|
  bb_geti (k := 249) (ci := 7) (j := 0) (idx := 114) (zd (i := .getfield 114) (n := 3) (by decide +kernel)) (by decide +kernel) (by decide +kernel) (by decide +kernel) (by decide +kernel) rfl g430 <|
  (fun lv hl => q_icmp_gt (off := 7) (tgt := 19) (zd (i := .if_icmp .gt (7)) (n := 3) (by decide +kernel)) (by decide) (fun h => (kt h) lv hl) (fun h => (kf h) lv hl))
theorem w_X8_isKnown_15 {Q : qQ} {I : qMI} {L : qML} {R : qMR} {a1 : Int32} (k : wkB l G (d + 1) n_X8_isKnown Q 20 [.ref 0, .int a1] [.int 1] I L R) : wkB l G (d + 1) n_X8_isKnown Q 15 [.ref 0, .int a1] [] I L R :=
  bb_lift (fun _ => q_iconst (n := 1) (zd (i := .iconst (1)) (n := 1) (by decide +kernel)) rfl) <|
  bb_lift (fun _ => q_goto (off := 4) (tgt := 20) (zd (i := .goto (4)) (n := 3) (by decide +kernel)) (by decide)) k
theorem w_X8_isKnown_19 {Q : qQ} {I : qMI} {L : qML} {R : qMR} {a1 : Int32} (k : wkB l G (d + 1) n_X8_isKnown Q 20 [.ref 0, .int a1] [.int 0] I L R) : wkB l G (d + 1) n_X8_isKnown Q 19 [.ref 0, .int a1] [] I L R :=
  bb_lift (fun _ => q_iconst (n := 0) (zd (i := .iconst (0)) (n := 1) (by decide +kernel)) rfl) <|
  k
theorem w_X8_isKnown_20 {Q : qQ} {I : qMI} {L : qML} {R : qMR} {a1 : Int32} {s0 : Int32} (hQ : Q (some (.int s0)) 336 I L R) (h1 : s0 = 0 ∨ s0 = 1) : wkB l G (d + 1) n_X8_isKnown Q 20 [.ref 0, .int a1] [.int s0] I L R :=
  (fun lv hl => q_iret (zd (i := .ireturn) (n := 1) (by decide +kernel)) rfl (by rcases h1 with e | e <;> rw [e] <;> rfl) (Nat.le_refl _) (Nat.le_refl _) hQ)
theorem w_X7_sift_0 {Q : qQ} {I : qMI} {L : qML} {R : qMR} {o : Nat} (ho : o = 9 ∨ o = 259) {a2 : Int32} (k : wkB l G (d + 1) n_X7_sift Q 2 [.ref 249, .ref o, .int a2, .int 0, wkU, wkU, wkU] [] I L R) : wkB l G (d + 1) n_X7_sift Q 0 [.ref 249, .ref o, .int a2, wkU, wkU, wkU, wkU] [] I L R :=
  bb_lift (fun _ => q_iconst (n := 0) (zd (i := .iconst (0)) (n := 1) (by decide +kernel)) rfl) <|
  bb_istore_n (n := 3) (i := 3) (zd (i := .istore_n 3) (n := 1) (by decide +kernel)) rfl (by decide +kernel) (wkNl_i rfl) <|
  k
theorem w_X7_sift_2 {Q : qQ} {I : qMI} {L : qML} {R : qMR} {o : Nat} (ho : o = 9 ∨ o = 259) {a2 : Int32} {a3 : Int32} (kt : 180 ≤ a3 → wkB l G (d + 1) n_X7_sift Q 22 [.ref 249, .ref o, .int a2, .int a3, wkU, wkU, wkU] [] I L R) (kf : ¬ 180 ≤ a3 → wkB l G (d + 1) n_X7_sift Q 9 [.ref 249, .ref o, .int a2, .int a3, wkU, wkU, wkU] [] I L R) : wkB l G (d + 1) n_X7_sift Q 2 [.ref 249, .ref o, .int a2, .int a3, wkU, wkU, wkU] [] I L R :=
  bb_iload_n (n := 3) (i := 3) (zd (i := .iload_n 3) (n := 1) (by decide +kernel)) rfl rfl <|
  bb_lift (fun _ => q_sipush (n := 180) (zd (i := .sipush (180)) (n := 3) (by decide +kernel)) rfl) <|
  (fun lv hl => q_icmp_ge (off := 16) (tgt := 22) (zd (i := .if_icmp .ge (16)) (n := 3) (by decide +kernel)) (by decide) (fun h => (kt h) lv hl) (fun h => (kf h) lv hl))
theorem w_X7_sift_9 {Q : qQ} {I : qMI} {L : qML} {R : qMR} {o : Nat} (ho : o = 9 ∨ o = 259) {a2 : Int32} {a3 : Int32} (h1 : R 249 4 = some 253) (h2 : vp_in a3 180) (k : wkB l G (d + 1) n_X7_sift Q 2 [.ref 249, .ref o, .int a2, .int (a3 + 1), wkU, wkU, wkU] [] (qUp I 253 a3.toNatClampNeg (vp_nar .boolean 1)) L R) : wkB l G (d + 1) n_X7_sift Q 9 [.ref 249, .ref o, .int a2, .int a3, wkU, wkU, wkU] [] I L R :=
  bb_aload_n (n := 0) (i := 0) (zd (i := .aload_n 0) (n := 1) (by decide +kernel)) rfl rfl <|
  bb_getr (k := 249) (ci := 7) (j := 4) (idx := 25) (a := 253) (zd (i := .getfield 25) (n := 3) (by decide +kernel)) (by decide +kernel) (by decide +kernel) (by decide +kernel) (by decide +kernel) rfl g434 h1 <|
  bb_iload_n (n := 3) (i := 3) (zd (i := .iload_n 3) (n := 1) (by decide +kernel)) rfl rfl <|
  bb_lift (fun _ => q_iconst (n := 1) (zd (i := .iconst (1)) (n := 1) (by decide +kernel)) rfl) <|
  bb_lift (fun _ => q_zast (k := 253) (zd (i := .bastore) (n := 1) (by decide +kernel)) (by decide +kernel) (by decide +kernel) h2) <|
  bb_iinc (i := 3) (n := 1) (zd (i := .iinc 3 (1)) (n := 3) (by decide +kernel)) rfl rfl (by decide +kernel) (wkNl_i rfl) <|
  bb_lift (fun _ => q_goto (off := -17) (tgt := 2) (zd (i := .goto (-17)) (n := 3) (by decide +kernel)) (by decide)) k
theorem w_X7_sift_22 {Q : qQ} {I : qMI} {L : qML} {R : qMR} {o : Nat} (ho : o = 9 ∨ o = 259) {a2 : Int32} {a3 : Int32} (k : wkB l G (d + 1) n_X7_sift Q 29 [.ref 249, .ref o, .int a2, .int 180, .int 0, wkU, wkU] [] I L R) : wkB l G (d + 1) n_X7_sift Q 22 [.ref 249, .ref o, .int a2, .int a3, wkU, wkU, wkU] [] I L R :=
  bb_lift (fun _ => q_sipush (n := 180) (zd (i := .sipush (180)) (n := 3) (by decide +kernel)) rfl) <|
  bb_istore_n (n := 3) (i := 3) (zd (i := .istore_n 3) (n := 1) (by decide +kernel)) rfl (by decide +kernel) (wkNl_i rfl) <|
  bb_lift (fun _ => q_iconst (n := 0) (zd (i := .iconst (0)) (n := 1) (by decide +kernel)) rfl) <|
  bb_istore (i := 4) (zd (i := .istore 4) (n := 2) (by decide +kernel)) (by decide +kernel) (wkNl_i rfl) <|
  k
theorem w_X7_sift_29 {Q : qQ} {I : qMI} {L : qML} {R : qMR} {o : Nat} (ho : o = 9 ∨ o = 259) {a2 : Int32} {a3 : Int32} {a4 : Int32} (kt : a2 ≤ a4 → wkB l G (d + 1) n_X7_sift Q 115 [.ref 249, .ref o, .int a2, .int a3, .int a4, wkU, wkU] [] I L R) (kf : ¬ a2 ≤ a4 → wkB l G (d + 1) n_X7_sift Q 35 [.ref 249, .ref o, .int a2, .int a3, .int a4, wkU, wkU] [] I L R) : wkB l G (d + 1) n_X7_sift Q 29 [.ref 249, .ref o, .int a2, .int a3, .int a4, wkU, wkU] [] I L R :=
  bb_iload (i := 4) (zd (i := .iload 4) (n := 2) (by decide +kernel)) rfl <|
  bb_iload_n (n := 2) (i := 2) (zd (i := .iload_n 2) (n := 1) (by decide +kernel)) rfl rfl <|
  (fun lv hl => q_icmp_ge (off := 83) (tgt := 115) (zd (i := .if_icmp .ge (83)) (n := 3) (by decide +kernel)) (by decide) (fun h => (kt h) lv hl) (fun h => (kf h) lv hl))
theorem w_X7_sift_35 {Q : qQ} {I : qMI} {L : qML} {R : qMR} {o : Nat} (ho : o = 9 ∨ o = 259) {a2 : Int32} {a3 : Int32} {a4 : Int32} (kt : (I 249 0) ≤ a4 → wkB l G (d + 1) n_X7_sift Q 115 [.ref 249, .ref o, .int a2, .int a3, .int a4, wkU, wkU] [] I L R) (kf : ¬ (I 249 0) ≤ a4 → wkB l G (d + 1) n_X7_sift Q 44 [.ref 249, .ref o, .int a2, .int a3, .int a4, wkU, wkU] [] I L R) : wkB l G (d + 1) n_X7_sift Q 35 [.ref 249, .ref o, .int a2, .int a3, .int a4, wkU, wkU] [] I L R :=
  bb_iload (i := 4) (zd (i := .iload 4) (n := 2) (by decide +kernel)) rfl <|
  bb_aload_n (n := 0) (i := 0) (zd (i := .aload_n 0) (n := 1) (by decide +kernel)) rfl rfl <|
  bb_geti (k := 249) (ci := 7) (j := 0) (idx := 9) (zd (i := .getfield 9) (n := 3) (by decide +kernel)) (by decide +kernel) (by decide +kernel) (by decide +kernel) (by decide +kernel) rfl g429 <|
  (fun lv hl => q_icmp_ge (off := 74) (tgt := 115) (zd (i := .if_icmp .ge (74)) (n := 3) (by decide +kernel)) (by decide) (fun h => (kt h) lv hl) (fun h => (kf h) lv hl))
theorem w_X7_sift_44 {Q : qQ} {I : qMI} {L : qML} {R : qMR} {o : Nat} (ho : o = 9 ∨ o = 259) {a2 : Int32} {a3 : Int32} {a4 : Int32} (h1 : R 249 3 = some 252) (h2 : vp_in a4 20) {P : Int32 → qMI → qML → qMR → Prop} (hc : wkCi l G d n_X0_heat [.ref o, .int (I 252 a4.toNatClampNeg)] I L R P) (kk : ∀ y I' L' R', P y I' L' R' → wkB l G (d + 1) n_X7_sift Q 55 [.ref 249, .ref o, .int a2, .int a3, .int a4, wkU, wkU] [.int y] I' L' R') : wkB l G (d + 1) n_X7_sift Q 44 [.ref 249, .ref o, .int a2, .int a3, .int a4, wkU, wkU] [] I L R :=
  bb_aload_n (n := 1) (i := 1) (zd (i := .aload_n 1) (n := 1) (by decide +kernel)) rfl rfl <|
  bb_aload_n (n := 0) (i := 0) (zd (i := .aload_n 0) (n := 1) (by decide +kernel)) rfl rfl <|
  bb_getr (k := 249) (ci := 7) (j := 3) (idx := 22) (a := 252) (zd (i := .getfield 22) (n := 3) (by decide +kernel)) (by decide +kernel) (by decide +kernel) (by decide +kernel) (by decide +kernel) rfl g433 h1 <|
  bb_iload (i := 4) (zd (i := .iload 4) (n := 2) (by decide +kernel)) rfl <|
  bb_lift (fun _ => q_iald (k := 252) (zd (i := .iaload) (n := 1) (by decide +kernel)) (by decide +kernel) (by decide +kernel) h2) <|
  bb_callV (idx := 32) (k := o) (ci := 0) (N := n_X0_heat) (As := [.int (I 252 a4.toNatClampNeg)]) (st := []) (zd (i := .invokevirtual 32) (n := 3) (by decide +kernel)) to_X0_heat g1046 g717 g718 (Nat.le_of_ble_eq_true rfl) (by rcases ho with rfl | rfl <;> decide +kernel) (by rcases ho with rfl | rfl <;> decide +kernel) (by decide +kernel) rfl rfl rfl hc (fun r I' L' R' hq => by obtain ⟨y, rfl, hp⟩ := hq; exact kk y I' L' R' hp)
theorem w_X7_sift_55 {Q : qQ} {I : qMI} {L : qML} {R : qMR} {o : Nat} (ho : o = 9 ∨ o = 259) {a2 : Int32} {a3 : Int32} {a4 : Int32} {s0 : Int32} (k : wkB l G (d + 1) n_X7_sift Q 60 [.ref 249, .ref o, .int a2, .int a3, .int a4, .int s0, .int 0] [] I L R) : wkB l G (d + 1) n_X7_sift Q 55 [.ref 249, .ref o, .int a2, .int a3, .int a4, wkU, wkU] [.int s0] I L R :=
  bb_istore (i := 5) (zd (i := .istore 5) (n := 2) (by decide +kernel)) (by decide +kernel) (wkNl_i rfl) <|
  bb_lift (fun _ => q_iconst (n := 0) (zd (i := .iconst (0)) (n := 1) (by decide +kernel)) rfl) <|
  bb_istore (i := 6) (zd (i := .istore 6) (n := 2) (by decide +kernel)) (by decide +kernel) (wkNl_i rfl) <|
  k
theorem w_X7_sift_60 {Q : qQ} {I : qMI} {L : qML} {R : qMR} {o : Nat} (ho : o = 9 ∨ o = 259) {a2 : Int32} {a3 : Int32} {a4 : Int32} {a5 : Int32} {a6 : Int32} (kt : 180 ≤ a6 → wkB l G (d + 1) n_X7_sift Q 109 [.ref 249, .ref o, .int a2, .int a3, .int a4, .int a5, .int a6] [] I L R) (kf : ¬ 180 ≤ a6 → wkB l G (d + 1) n_X7_sift Q 68 [.ref 249, .ref o, .int a2, .int a3, .int a4, .int a5, .int a6] [] I L R) : wkB l G (d + 1) n_X7_sift Q 60 [.ref 249, .ref o, .int a2, .int a3, .int a4, .int a5, .int a6] [] I L R :=
  bb_iload (i := 6) (zd (i := .iload 6) (n := 2) (by decide +kernel)) rfl <|
  bb_lift (fun _ => q_sipush (n := 180) (zd (i := .sipush (180)) (n := 3) (by decide +kernel)) rfl) <|
  (fun lv hl => q_icmp_ge (off := 44) (tgt := 109) (zd (i := .if_icmp .ge (44)) (n := 3) (by decide +kernel)) (by decide) (fun h => (kt h) lv hl) (fun h => (kf h) lv hl))
theorem w_X7_sift_68 {Q : qQ} {I : qMI} {L : qML} {R : qMR} {o : Nat} (ho : o = 9 ∨ o = 259) {a2 : Int32} {a3 : Int32} {a4 : Int32} {a5 : Int32} {a6 : Int32} (h1 : R 249 4 = some 253) (h2 : vp_in a6 180) (kt : (I 253 a6.toNatClampNeg) = 0 → wkB l G (d + 1) n_X7_sift Q 103 [.ref 249, .ref o, .int a2, .int a3, .int a4, .int a5, .int a6] [] I L R) (kf : ¬ (I 253 a6.toNatClampNeg) = 0 → wkB l G (d + 1) n_X7_sift Q 78 [.ref 249, .ref o, .int a2, .int a3, .int a4, .int a5, .int a6] [] I L R) : wkB l G (d + 1) n_X7_sift Q 68 [.ref 249, .ref o, .int a2, .int a3, .int a4, .int a5, .int a6] [] I L R :=
  bb_aload_n (n := 0) (i := 0) (zd (i := .aload_n 0) (n := 1) (by decide +kernel)) rfl rfl <|
  bb_getr (k := 249) (ci := 7) (j := 4) (idx := 25) (a := 253) (zd (i := .getfield 25) (n := 3) (by decide +kernel)) (by decide +kernel) (by decide +kernel) (by decide +kernel) (by decide +kernel) rfl g434 h1 <|
  bb_iload (i := 6) (zd (i := .iload 6) (n := 2) (by decide +kernel)) rfl <|
  bb_lift (fun _ => q_zald (k := 253) (zd (i := .baload) (n := 1) (by decide +kernel)) (by decide +kernel) (by decide +kernel) h2) <|
  (fun lv hl => q_if_eq (off := 28) (tgt := 103) (zd (i := .ifCond .eq (28)) (n := 3) (by decide +kernel)) (by decide) (fun h => (kt h) lv hl) (fun h => (kf h) lv hl))
theorem w_X7_sift_78 {Q : qQ} {I : qMI} {L : qML} {R : qMR} {o : Nat} (ho : o = 9 ∨ o = 259) {a2 : Int32} {a3 : Int32} {a4 : Int32} {a5 : Int32} {a6 : Int32} {P : Int32 → qMI → qML → qMR → Prop} (hc : wkCi l G d n_X7_isSo [.ref 249, .ref o, .int a4, .int a6, .int a5] I L R P) (kk : ∀ y I' L' R', P y I' L' R' → wkB l G (d + 1) n_X7_sift Q 89 [.ref 249, .ref o, .int a2, .int a3, .int a4, .int a5, .int a6] [.int y] I' L' R') : wkB l G (d + 1) n_X7_sift Q 78 [.ref 249, .ref o, .int a2, .int a3, .int a4, .int a5, .int a6] [] I L R :=
  bb_aload_n (n := 0) (i := 0) (zd (i := .aload_n 0) (n := 1) (by decide +kernel)) rfl rfl <|
  bb_aload_n (n := 1) (i := 1) (zd (i := .aload_n 1) (n := 1) (by decide +kernel)) rfl rfl <|
  bb_iload (i := 4) (zd (i := .iload 4) (n := 2) (by decide +kernel)) rfl <|
  bb_iload (i := 6) (zd (i := .iload 6) (n := 2) (by decide +kernel)) rfl <|
  bb_iload (i := 5) (zd (i := .iload 5) (n := 2) (by decide +kernel)) rfl <|
  bb_callV (idx := 38) (k := 249) (ci := 7) (N := n_X7_isSo) (As := [.ref o, .int a4, .int a6, .int a5]) (st := []) (zd (i := .invokevirtual 38) (n := 3) (by decide +kernel)) to_X7_isSo g1047 g1049 g38 (Nat.le_of_ble_eq_true rfl) (by decide +kernel) (by decide +kernel) (by decide +kernel) rfl rfl rfl hc (fun r I' L' R' hq => by obtain ⟨y, rfl, hp⟩ := hq; exact kk y I' L' R' hp)
theorem w_X7_sift_89 {Q : qQ} {I : qMI} {L : qML} {R : qMR} {o : Nat} (ho : o = 9 ∨ o = 259) {a2 : Int32} {a3 : Int32} {a4 : Int32} {a5 : Int32} {a6 : Int32} {s0 : Int32} (kt : ¬ s0 = 0 → wkB l G (d + 1) n_X7_sift Q 103 [.ref 249, .ref o, .int a2, .int a3, .int a4, .int a5, .int a6] [] I L R) (kf : s0 = 0 → wkB l G (d + 1) n_X7_sift Q 92 [.ref 249, .ref o, .int a2, .int a3, .int a4, .int a5, .int a6] [] I L R) : wkB l G (d + 1) n_X7_sift Q 89 [.ref 249, .ref o, .int a2, .int a3, .int a4, .int a5, .int a6] [.int s0] I L R :=
  (fun lv hl => q_if_ne (off := 14) (tgt := 103) (zd (i := .ifCond .ne (14)) (n := 3) (by decide +kernel)) (by decide) (fun h => (kt h) lv hl) (fun h => (kf h) lv hl))
theorem w_X7_sift_92 {Q : qQ} {I : qMI} {L : qML} {R : qMR} {o : Nat} (ho : o = 9 ∨ o = 259) {a2 : Int32} {a3 : Int32} {a4 : Int32} {a5 : Int32} {a6 : Int32} (h1 : R 249 4 = some 253) (h2 : vp_in a6 180) (k : wkB l G (d + 1) n_X7_sift Q 103 [.ref 249, .ref o, .int a2, .int (a3 + (-1)), .int a4, .int a5, .int a6] [] (qUp I 253 a6.toNatClampNeg (vp_nar .boolean 0)) L R) : wkB l G (d + 1) n_X7_sift Q 92 [.ref 249, .ref o, .int a2, .int a3, .int a4, .int a5, .int a6] [] I L R :=
  bb_aload_n (n := 0) (i := 0) (zd (i := .aload_n 0) (n := 1) (by decide +kernel)) rfl rfl <|
  bb_getr (k := 249) (ci := 7) (j := 4) (idx := 25) (a := 253) (zd (i := .getfield 25) (n := 3) (by decide +kernel)) (by decide +kernel) (by decide +kernel) (by decide +kernel) (by decide +kernel) rfl g434 h1 <|
  bb_iload (i := 6) (zd (i := .iload 6) (n := 2) (by decide +kernel)) rfl <|
  bb_lift (fun _ => q_iconst (n := 0) (zd (i := .iconst (0)) (n := 1) (by decide +kernel)) rfl) <|
  bb_lift (fun _ => q_zast (k := 253) (zd (i := .bastore) (n := 1) (by decide +kernel)) (by decide +kernel) (by decide +kernel) h2) <|
  bb_iinc (i := 3) (n := -1) (zd (i := .iinc 3 (-1)) (n := 3) (by decide +kernel)) rfl rfl (by decide +kernel) (wkNl_i rfl) <|
  k
theorem w_X7_sift_103 {Q : qQ} {I : qMI} {L : qML} {R : qMR} {o : Nat} (ho : o = 9 ∨ o = 259) {a2 : Int32} {a3 : Int32} {a4 : Int32} {a5 : Int32} {a6 : Int32} (k : wkB l G (d + 1) n_X7_sift Q 60 [.ref 249, .ref o, .int a2, .int a3, .int a4, .int a5, .int (a6 + 1)] [] I L R) : wkB l G (d + 1) n_X7_sift Q 103 [.ref 249, .ref o, .int a2, .int a3, .int a4, .int a5, .int a6] [] I L R :=
  bb_iinc (i := 6) (n := 1) (zd (i := .iinc 6 (1)) (n := 3) (by decide +kernel)) rfl rfl (by decide +kernel) (wkNl_i rfl) <|
  bb_lift (fun _ => q_goto (off := -46) (tgt := 60) (zd (i := .goto (-46)) (n := 3) (by decide +kernel)) (by decide)) k
theorem w_X7_sift_109 {Q : qQ} {I : qMI} {L : qML} {R : qMR} {o : Nat} (ho : o = 9 ∨ o = 259) {a2 : Int32} {a3 : Int32} {a4 : Int32} {a5 : Int32} {a6 : Int32} (k : wkB l G (d + 1) n_X7_sift Q 29 [.ref 249, .ref o, .int a2, .int a3, .int (a4 + 1), wkU, wkU] [] I L R) : wkB l G (d + 1) n_X7_sift Q 109 [.ref 249, .ref o, .int a2, .int a3, .int a4, .int a5, .int a6] [] I L R :=
  bb_iinc (i := 4) (n := 1) (zd (i := .iinc 4 (1)) (n := 3) (by decide +kernel)) rfl rfl (by decide +kernel) (wkNl_i rfl) <|
  bb_lift (fun _ => q_goto (off := -83) (tgt := 29) (zd (i := .goto (-83)) (n := 3) (by decide +kernel)) (by decide)) (wkB_le (vs := [.ref 249, .ref o, .int a2, .int a3, .int (a4 + 1), wkU, wkU]) (ws := [.ref 249, .ref o, .int a2, .int a3, .int (a4 + 1), .int a5, .int a6]) ⟨Or.inr rfl, Or.inr rfl, Or.inr rfl, Or.inr rfl, Or.inr rfl, Or.inl rfl, Or.inl rfl, trivial⟩ (k))
theorem w_X7_sift_115 {Q : qQ} {I : qMI} {L : qML} {R : qMR} {o : Nat} (ho : o = 9 ∨ o = 259) {a2 : Int32} {a3 : Int32} {a4 : Int32} (hQ : Q (some (.int a3)) 336 I L R) : wkB l G (d + 1) n_X7_sift Q 115 [.ref 249, .ref o, .int a2, .int a3, .int a4, wkU, wkU] [] I L R :=
  bb_iload_n (n := 3) (i := 3) (zd (i := .iload_n 3) (n := 1) (by decide +kernel)) rfl rfl <|
  (fun lv hl => q_iret (zd (i := .ireturn) (n := 1) (by decide +kernel)) rfl rfl (Nat.le_refl _) (Nat.le_refl _) hQ)
theorem w_X7_isSo_0 {Q : qQ} {I : qMI} {L : qML} {R : qMR} {o : Nat} (ho : o = 9 ∨ o = 259) {a2 : Int32} {a3 : Int32} {a4 : Int32} (h1 : R o 12 = some (o + 6)) (h2 : R 249 3 = some 252) (h3 : vp_in a2 20) (h4 : R 249 1 = some 250) (h5 : vp_in a2 20) {P : Int32 → qMI → qML → qMR → Prop} (hc : wkCi l G d n_X7_xOf [.int a3] I L R P) (kk : ∀ y I' L' R', P y I' L' R' → wkB l G (d + 1) n_X7_isSo Q 22 [.ref 249, .ref o, .int a2, .int a3, .int a4] [.int y, .int (I 250 a2.toNatClampNeg), .int a4, .int (I 252 a2.toNatClampNeg), .ref (o + 6)] I' L' R') : wkB l G (d + 1) n_X7_isSo Q 0 [.ref 249, .ref o, .int a2, .int a3, .int a4] [] I L R :=
  bb_aload_n (n := 1) (i := 1) (zd (i := .aload_n 1) (n := 1) (by decide +kernel)) rfl rfl <|
  bb_getr (k := o) (ci := 0) (j := 12) (idx := 42) (a := (o + 6)) (zd (i := .getfield 42) (n := 3) (by decide +kernel)) (by rcases ho with rfl | rfl <;> decide +kernel) (by rcases ho with rfl | rfl <;> decide +kernel) (by decide +kernel) (by decide +kernel) rfl g305 h1 <|
  bb_aload_n (n := 0) (i := 0) (zd (i := .aload_n 0) (n := 1) (by decide +kernel)) rfl rfl <|
  bb_getr (k := 249) (ci := 7) (j := 3) (idx := 22) (a := 252) (zd (i := .getfield 22) (n := 3) (by decide +kernel)) (by decide +kernel) (by decide +kernel) (by decide +kernel) (by decide +kernel) rfl g433 h2 <|
  bb_iload_n (n := 2) (i := 2) (zd (i := .iload_n 2) (n := 1) (by decide +kernel)) rfl rfl <|
  bb_lift (fun _ => q_iald (k := 252) (zd (i := .iaload) (n := 1) (by decide +kernel)) (by decide +kernel) (by decide +kernel) h3) <|
  bb_iload (i := 4) (zd (i := .iload 4) (n := 2) (by decide +kernel)) rfl <|
  bb_aload_n (n := 0) (i := 0) (zd (i := .aload_n 0) (n := 1) (by decide +kernel)) rfl rfl <|
  bb_getr (k := 249) (ci := 7) (j := 1) (idx := 15) (a := 250) (zd (i := .getfield 15) (n := 3) (by decide +kernel)) (by decide +kernel) (by decide +kernel) (by decide +kernel) (by decide +kernel) rfl g431 h4 <|
  bb_iload_n (n := 2) (i := 2) (zd (i := .iload_n 2) (n := 1) (by decide +kernel)) rfl rfl <|
  bb_lift (fun _ => q_iald (k := 250) (zd (i := .iaload) (n := 1) (by decide +kernel)) (by decide +kernel) (by decide +kernel) h5) <|
  bb_iload_n (n := 3) (i := 3) (zd (i := .iload_n 3) (n := 1) (by decide +kernel)) rfl rfl <|
  bb_callS (idx := 46) (N := n_X7_xOf) (As := [.int a3]) (st := [.int (I 250 a2.toNatClampNeg), .int a4, .int (I 252 a2.toNatClampNeg), .ref (o + 6)]) (zd (i := .invokestatic 46) (n := 3) (by decide +kernel)) to_X7_xOf g1051 g1052 (Nat.le_of_ble_eq_true rfl) rfl rfl hc (fun r I' L' R' hq => by obtain ⟨y, rfl, hp⟩ := hq; exact kk y I' L' R' hp)
theorem w_X7_isSo_22 {Q : qQ} {I : qMI} {L : qML} {R : qMR} {o : Nat} (ho : o = 9 ∨ o = 259) {a2 : Int32} {a3 : Int32} {a4 : Int32} {s1 : Int32} {s2 : Int32} {s3 : Int32} {s4 : Int32} {P : Int32 → qMI → qML → qMR → Prop} (hc : wkCi l G d n_X7_tallOf [.int a3] I L R P) (kk : ∀ y I' L' R', P y I' L' R' → wkB l G (d + 1) n_X7_isSo Q 26 [.ref 249, .ref o, .int a2, .int a3, .int a4] [.int y, .int s4, .int s3, .int s2, .int s1, .ref (o + 6)] I' L' R') : wkB l G (d + 1) n_X7_isSo Q 22 [.ref 249, .ref o, .int a2, .int a3, .int a4] [.int s4, .int s3, .int s2, .int s1, .ref (o + 6)] I L R :=
  bb_iload_n (n := 3) (i := 3) (zd (i := .iload_n 3) (n := 1) (by decide +kernel)) rfl rfl <|
  bb_callS (idx := 49) (N := n_X7_tallOf) (As := [.int a3]) (st := [.int s4, .int s3, .int s2, .int s1, .ref (o + 6)]) (zd (i := .invokestatic 49) (n := 3) (by decide +kernel)) to_X7_tallOf g1054 g1055 (Nat.le_of_ble_eq_true rfl) rfl rfl hc (fun r I' L' R' hq => by obtain ⟨y, rfl, hp⟩ := hq; exact kk y I' L' R' hp)
theorem w_X7_isSo_26 {Q : qQ} {I : qMI} {L : qML} {R : qMR} {o : Nat} (ho : o = 9 ∨ o = 259) {a2 : Int32} {a3 : Int32} {a4 : Int32} {s1 : Int32} {s2 : Int32} {s3 : Int32} {s4 : Int32} {s5 : Int32} {P : qMI → qML → qMR → Prop} (hc : wkCv l G d n_X2_aim [.ref (o + 6), .int s1, .int s2, .int s3, .int s4, .int s5] I L R P) (kk : ∀ I' L' R', P I' L' R' → wkB l G (d + 1) n_X7_isSo Q 29 [.ref 249, .ref o, .int a2, .int a3, .int a4] [] I' L' R') : wkB l G (d + 1) n_X7_isSo Q 26 [.ref 249, .ref o, .int a2, .int a3, .int a4] [.int s5, .int s4, .int s3, .int s2, .int s1, .ref (o + 6)] I L R :=
  bb_callV (idx := 52) (k := (o + 6)) (ci := 2) (N := n_X2_aim) (As := [.int s1, .int s2, .int s3, .int s4, .int s5]) (st := []) (zd (i := .invokevirtual 52) (n := 3) (by decide +kernel)) to_X2_aim g1057 g750 g751 (Nat.le_of_ble_eq_true rfl) (by rcases ho with rfl | rfl <;> decide +kernel) (by rcases ho with rfl | rfl <;> decide +kernel) (by decide +kernel) rfl rfl rfl hc (fun r I' L' R' hq => by obtain ⟨rfl, hp⟩ := hq; exact kk I' L' R' hp)
theorem w_X7_isSo_29 {Q : qQ} {I : qMI} {L : qML} {R : qMR} {o : Nat} (ho : o = 9 ∨ o = 259) {a2 : Int32} {a3 : Int32} {a4 : Int32} (h1 : R o 12 = some (o + 6)) {P : Int32 → qMI → qML → qMR → Prop} (hc : wkCi l G d n_X2_spot [.ref (o + 6)] I L R P) (kk : ∀ y I' L' R', P y I' L' R' → wkB l G (d + 1) n_X7_isSo Q 36 [.ref 249, .ref o, .int a2, .int a3, .int a4] [.int y] I' L' R') : wkB l G (d + 1) n_X7_isSo Q 29 [.ref 249, .ref o, .int a2, .int a3, .int a4] [] I L R :=
  bb_aload_n (n := 1) (i := 1) (zd (i := .aload_n 1) (n := 1) (by decide +kernel)) rfl rfl <|
  bb_getr (k := o) (ci := 0) (j := 12) (idx := 42) (a := (o + 6)) (zd (i := .getfield 42) (n := 3) (by decide +kernel)) (by rcases ho with rfl | rfl <;> decide +kernel) (by rcases ho with rfl | rfl <;> decide +kernel) (by decide +kernel) (by decide +kernel) rfl g305 h1 <|
  bb_callV (idx := 58) (k := (o + 6)) (ci := 2) (N := n_X2_spot) (As := []) (st := []) (zd (i := .invokevirtual 58) (n := 3) (by decide +kernel)) to_X2_spot g1058 g906 g907 (Nat.le_of_ble_eq_true rfl) (by rcases ho with rfl | rfl <;> decide +kernel) (by rcases ho with rfl | rfl <;> decide +kernel) (by decide +kernel) rfl rfl rfl hc (fun r I' L' R' hq => by obtain ⟨y, rfl, hp⟩ := hq; exact kk y I' L' R' hp)
theorem w_X7_isSo_36 {Q : qQ} {I : qMI} {L : qML} {R : qMR} {o : Nat} (ho : o = 9 ∨ o = 259) {a2 : Int32} {a3 : Int32} {a4 : Int32} {s0 : Int32} (h1 : R 249 2 = some 251) (h2 : vp_in a2 20) (kt : ¬ s0 = (I 251 a2.toNatClampNeg) → wkB l G (d + 1) n_X7_isSo Q 49 [.ref 249, .ref o, .int a2, .int a3, .int a4] [] I L R) (kf : s0 = (I 251 a2.toNatClampNeg) → wkB l G (d + 1) n_X7_isSo Q 45 [.ref 249, .ref o, .int a2, .int a3, .int a4] [] I L R) : wkB l G (d + 1) n_X7_isSo Q 36 [.ref 249, .ref o, .int a2, .int a3, .int a4] [.int s0] I L R :=
  bb_aload_n (n := 0) (i := 0) (zd (i := .aload_n 0) (n := 1) (by decide +kernel)) rfl rfl <|
  bb_getr (k := 249) (ci := 7) (j := 2) (idx := 19) (a := 251) (zd (i := .getfield 19) (n := 3) (by decide +kernel)) (by decide +kernel) (by decide +kernel) (by decide +kernel) (by decide +kernel) rfl g432 h1 <|
  bb_iload_n (n := 2) (i := 2) (zd (i := .iload_n 2) (n := 1) (by decide +kernel)) rfl rfl <|
  bb_lift (fun _ => q_iald (k := 251) (zd (i := .iaload) (n := 1) (by decide +kernel)) (by decide +kernel) (by decide +kernel) h2) <|
  (fun lv hl => q_icmp_ne (off := 7) (tgt := 49) (zd (i := .if_icmp .ne (7)) (n := 3) (by decide +kernel)) (by decide) (fun h => (kt h) lv hl) (fun h => (kf h) lv hl))
theorem w_X7_isSo_45 {Q : qQ} {I : qMI} {L : qML} {R : qMR} {o : Nat} (ho : o = 9 ∨ o = 259) {a2 : Int32} {a3 : Int32} {a4 : Int32} (k : wkB l G (d + 1) n_X7_isSo Q 50 [.ref 249, .ref o, .int a2, .int a3, .int a4] [.int 1] I L R) : wkB l G (d + 1) n_X7_isSo Q 45 [.ref 249, .ref o, .int a2, .int a3, .int a4] [] I L R :=
  bb_lift (fun _ => q_iconst (n := 1) (zd (i := .iconst (1)) (n := 1) (by decide +kernel)) rfl) <|
  bb_lift (fun _ => q_goto (off := 4) (tgt := 50) (zd (i := .goto (4)) (n := 3) (by decide +kernel)) (by decide)) k
theorem w_X7_isSo_49 {Q : qQ} {I : qMI} {L : qML} {R : qMR} {o : Nat} (ho : o = 9 ∨ o = 259) {a2 : Int32} {a3 : Int32} {a4 : Int32} (k : wkB l G (d + 1) n_X7_isSo Q 50 [.ref 249, .ref o, .int a2, .int a3, .int a4] [.int 0] I L R) : wkB l G (d + 1) n_X7_isSo Q 49 [.ref 249, .ref o, .int a2, .int a3, .int a4] [] I L R :=
  bb_lift (fun _ => q_iconst (n := 0) (zd (i := .iconst (0)) (n := 1) (by decide +kernel)) rfl) <|
  k
theorem w_X7_isSo_50 {Q : qQ} {I : qMI} {L : qML} {R : qMR} {o : Nat} (ho : o = 9 ∨ o = 259) {a2 : Int32} {a3 : Int32} {a4 : Int32} {s0 : Int32} (hQ : Q (some (.int s0)) 336 I L R) (h1 : s0 = 0 ∨ s0 = 1) : wkB l G (d + 1) n_X7_isSo Q 50 [.ref 249, .ref o, .int a2, .int a3, .int a4] [.int s0] I L R :=
  (fun lv hl => q_iret (zd (i := .ireturn) (n := 1) (by decide +kernel)) rfl (by rcases h1 with e | e <;> rw [e] <;> rfl) (Nat.le_refl _) (Nat.le_refl _) hQ)
theorem w_X7_common_0 {Q : qQ} {I : qMI} {L : qML} {R : qMR} {a1 : Int32} (k : wkB l G (d + 1) n_X7_common Q 5 [.ref 249, .int a1, .int (-2), .int 0, wkU] [] I L R) : wkB l G (d + 1) n_X7_common Q 0 [.ref 249, .int a1, wkU, wkU, wkU] [] I L R :=
  bb_lift (fun _ => q_bipush (n := -2) (zd (i := .bipush (-2)) (n := 2) (by decide +kernel)) rfl) <|
  bb_istore_n (n := 2) (i := 2) (zd (i := .istore_n 2) (n := 1) (by decide +kernel)) rfl (by decide +kernel) (wkNl_i rfl) <|
  bb_lift (fun _ => q_iconst (n := 0) (zd (i := .iconst (0)) (n := 1) (by decide +kernel)) rfl) <|
  bb_istore_n (n := 3) (i := 3) (zd (i := .istore_n 3) (n := 1) (by decide +kernel)) rfl (by decide +kernel) (wkNl_i rfl) <|
  k
theorem w_X7_common_5 {Q : qQ} {I : qMI} {L : qML} {R : qMR} {a1 : Int32} {a2 : Int32} {a3 : Int32} (kt : 180 ≤ a3 → wkB l G (d + 1) n_X7_common Q 75 [.ref 249, .int a1, .int a2, .int a3, wkU] [] I L R) (kf : ¬ 180 ≤ a3 → wkB l G (d + 1) n_X7_common Q 12 [.ref 249, .int a1, .int a2, .int a3, wkU] [] I L R) : wkB l G (d + 1) n_X7_common Q 5 [.ref 249, .int a1, .int a2, .int a3, wkU] [] I L R :=
  bb_iload_n (n := 3) (i := 3) (zd (i := .iload_n 3) (n := 1) (by decide +kernel)) rfl rfl <|
  bb_lift (fun _ => q_sipush (n := 180) (zd (i := .sipush (180)) (n := 3) (by decide +kernel)) rfl) <|
  (fun lv hl => q_icmp_ge (off := 66) (tgt := 75) (zd (i := .if_icmp .ge (66)) (n := 3) (by decide +kernel)) (by decide) (fun h => (kt h) lv hl) (fun h => (kf h) lv hl))
theorem w_X7_common_12 {Q : qQ} {I : qMI} {L : qML} {R : qMR} {a1 : Int32} {a2 : Int32} {a3 : Int32} (kt : a1 = 0 → wkB l G (d + 1) n_X7_common Q 23 [.ref 249, .int a1, .int a2, .int a3, wkU] [] I L R) (kf : ¬ a1 = 0 → wkB l G (d + 1) n_X7_common Q 16 [.ref 249, .int a1, .int a2, .int a3, wkU] [] I L R) : wkB l G (d + 1) n_X7_common Q 12 [.ref 249, .int a1, .int a2, .int a3, wkU] [] I L R :=
  bb_iload_n (n := 1) (i := 1) (zd (i := .iload_n 1) (n := 1) (by decide +kernel)) rfl rfl <|
  (fun lv hl => q_if_eq (off := 10) (tgt := 23) (zd (i := .ifCond .eq (10)) (n := 3) (by decide +kernel)) (by decide) (fun h => (kt h) lv hl) (fun h => (kf h) lv hl))
theorem w_X7_common_16 {Q : qQ} {I : qMI} {L : qML} {R : qMR} {a1 : Int32} {a2 : Int32} {a3 : Int32} {P : Int32 → qMI → qML → qMR → Prop} (hc : wkCi l G d n_X7_xOf [.int a3] I L R P) (kk : ∀ y I' L' R', P y I' L' R' → wkB l G (d + 1) n_X7_common Q 20 [.ref 249, .int a1, .int a2, .int a3, wkU] [.int y] I' L' R') : wkB l G (d + 1) n_X7_common Q 16 [.ref 249, .int a1, .int a2, .int a3, wkU] [] I L R :=
  bb_iload_n (n := 3) (i := 3) (zd (i := .iload_n 3) (n := 1) (by decide +kernel)) rfl rfl <|
  bb_callS (idx := 46) (N := n_X7_xOf) (As := [.int a3]) (st := []) (zd (i := .invokestatic 46) (n := 3) (by decide +kernel)) to_X7_xOf g1051 g1052 (Nat.le_of_ble_eq_true rfl) rfl rfl hc (fun r I' L' R' hq => by obtain ⟨y, rfl, hp⟩ := hq; exact kk y I' L' R' hp)
theorem w_X7_common_20 {Q : qQ} {I : qMI} {L : qML} {R : qMR} {a1 : Int32} {a2 : Int32} {a3 : Int32} {s0 : Int32} (k : wkB l G (d + 1) n_X7_common Q 27 [.ref 249, .int a1, .int a2, .int a3, wkU] [.int s0] I L R) : wkB l G (d + 1) n_X7_common Q 20 [.ref 249, .int a1, .int a2, .int a3, wkU] [.int s0] I L R :=
  bb_lift (fun _ => q_goto (off := 7) (tgt := 27) (zd (i := .goto (7)) (n := 3) (by decide +kernel)) (by decide)) k
theorem w_X7_common_23 {Q : qQ} {I : qMI} {L : qML} {R : qMR} {a1 : Int32} {a2 : Int32} {a3 : Int32} {P : Int32 → qMI → qML → qMR → Prop} (hc : wkCi l G d n_X7_tallOf [.int a3] I L R P) (kk : ∀ y I' L' R', P y I' L' R' → wkB l G (d + 1) n_X7_common Q 27 [.ref 249, .int a1, .int a2, .int a3, wkU] [.int y] I' L' R') : wkB l G (d + 1) n_X7_common Q 23 [.ref 249, .int a1, .int a2, .int a3, wkU] [] I L R :=
  bb_iload_n (n := 3) (i := 3) (zd (i := .iload_n 3) (n := 1) (by decide +kernel)) rfl rfl <|
  bb_callS (idx := 49) (N := n_X7_tallOf) (As := [.int a3]) (st := []) (zd (i := .invokestatic 49) (n := 3) (by decide +kernel)) to_X7_tallOf g1054 g1055 (Nat.le_of_ble_eq_true rfl) rfl rfl hc (fun r I' L' R' hq => by obtain ⟨y, rfl, hp⟩ := hq; exact kk y I' L' R' hp)
theorem w_X7_common_27 {Q : qQ} {I : qMI} {L : qML} {R : qMR} {a1 : Int32} {a2 : Int32} {a3 : Int32} {s0 : Int32} (h1 : R 249 4 = some 253) (h2 : vp_in a3 180) (kt : (I 253 a3.toNatClampNeg) = 0 → wkB l G (d + 1) n_X7_common Q 53 [.ref 249, .int a1, .int a2, .int a3, .int s0] [] I L R) (kf : ¬ (I 253 a3.toNatClampNeg) = 0 → wkB l G (d + 1) n_X7_common Q 38 [.ref 249, .int a1, .int a2, .int a3, .int s0] [] I L R) : wkB l G (d + 1) n_X7_common Q 27 [.ref 249, .int a1, .int a2, .int a3, wkU] [.int s0] I L R :=
  bb_istore (i := 4) (zd (i := .istore 4) (n := 2) (by decide +kernel)) (by decide +kernel) (wkNl_i rfl) <|
  bb_aload_n (n := 0) (i := 0) (zd (i := .aload_n 0) (n := 1) (by decide +kernel)) rfl rfl <|
  bb_getr (k := 249) (ci := 7) (j := 4) (idx := 25) (a := 253) (zd (i := .getfield 25) (n := 3) (by decide +kernel)) (by decide +kernel) (by decide +kernel) (by decide +kernel) (by decide +kernel) rfl g434 h1 <|
  bb_iload_n (n := 3) (i := 3) (zd (i := .iload_n 3) (n := 1) (by decide +kernel)) rfl rfl <|
  bb_lift (fun _ => q_zald (k := 253) (zd (i := .baload) (n := 1) (by decide +kernel)) (by decide +kernel) (by decide +kernel) h2) <|
  (fun lv hl => q_if_eq (off := 18) (tgt := 53) (zd (i := .ifCond .eq (18)) (n := 3) (by decide +kernel)) (by decide) (fun h => (kt h) lv hl) (fun h => (kf h) lv hl))
theorem w_X7_common_38 {Q : qQ} {I : qMI} {L : qML} {R : qMR} {a1 : Int32} {a2 : Int32} {a3 : Int32} {a4 : Int32} (kt : a2 = (-2) → wkB l G (d + 1) n_X7_common Q 53 [.ref 249, .int a1, .int a2, .int a3, .int a4] [] I L R) (kf : ¬ a2 = (-2) → wkB l G (d + 1) n_X7_common Q 44 [.ref 249, .int a1, .int a2, .int a3, .int a4] [] I L R) : wkB l G (d + 1) n_X7_common Q 38 [.ref 249, .int a1, .int a2, .int a3, .int a4] [] I L R :=
  bb_iload_n (n := 2) (i := 2) (zd (i := .iload_n 2) (n := 1) (by decide +kernel)) rfl rfl <|
  bb_lift (fun _ => q_bipush (n := -2) (zd (i := .bipush (-2)) (n := 2) (by decide +kernel)) rfl) <|
  (fun lv hl => q_icmp_eq (off := 12) (tgt := 53) (zd (i := .if_icmp .eq (12)) (n := 3) (by decide +kernel)) (by decide) (fun h => (kt h) lv hl) (fun h => (kf h) lv hl))
theorem w_X7_common_44 {Q : qQ} {I : qMI} {L : qML} {R : qMR} {a1 : Int32} {a2 : Int32} {a3 : Int32} {a4 : Int32} (kt : a2 = a4 → wkB l G (d + 1) n_X7_common Q 53 [.ref 249, .int a1, .int a2, .int a3, .int a4] [] I L R) (kf : ¬ a2 = a4 → wkB l G (d + 1) n_X7_common Q 50 [.ref 249, .int a1, .int a2, .int a3, .int a4] [] I L R) : wkB l G (d + 1) n_X7_common Q 44 [.ref 249, .int a1, .int a2, .int a3, .int a4] [] I L R :=
  bb_iload_n (n := 2) (i := 2) (zd (i := .iload_n 2) (n := 1) (by decide +kernel)) rfl rfl <|
  bb_iload (i := 4) (zd (i := .iload 4) (n := 2) (by decide +kernel)) rfl <|
  (fun lv hl => q_icmp_eq (off := 6) (tgt := 53) (zd (i := .if_icmp .eq (6)) (n := 3) (by decide +kernel)) (by decide) (fun h => (kt h) lv hl) (fun h => (kf h) lv hl))
theorem w_X7_common_50 {Q : qQ} {I : qMI} {L : qML} {R : qMR} {a1 : Int32} {a2 : Int32} {a3 : Int32} {a4 : Int32} (hQ : Q (some (.int (-2))) 336 I L R) : wkB l G (d + 1) n_X7_common Q 50 [.ref 249, .int a1, .int a2, .int a3, .int a4] [] I L R :=
  bb_lift (fun _ => q_bipush (n := -2) (zd (i := .bipush (-2)) (n := 2) (by decide +kernel)) rfl) <|
  (fun lv hl => q_iret (zd (i := .ireturn) (n := 1) (by decide +kernel)) rfl rfl (Nat.le_refl _) (Nat.le_refl _) hQ)
theorem w_X7_common_53 {Q : qQ} {I : qMI} {L : qML} {R : qMR} {a1 : Int32} {a2 : Int32} {a3 : Int32} {a4 : Int32} (h1 : R 249 4 = some 253) (h2 : vp_in a3 180) (kt : (I 253 a3.toNatClampNeg) = 0 → wkB l G (d + 1) n_X7_common Q 67 [.ref 249, .int a1, .int a2, .int a3, .int a4] [] I L R) (kf : ¬ (I 253 a3.toNatClampNeg) = 0 → wkB l G (d + 1) n_X7_common Q 62 [.ref 249, .int a1, .int a2, .int a3, .int a4] [] I L R) : wkB l G (d + 1) n_X7_common Q 53 [.ref 249, .int a1, .int a2, .int a3, .int a4] [] I L R :=
  bb_aload_n (n := 0) (i := 0) (zd (i := .aload_n 0) (n := 1) (by decide +kernel)) rfl rfl <|
  bb_getr (k := 249) (ci := 7) (j := 4) (idx := 25) (a := 253) (zd (i := .getfield 25) (n := 3) (by decide +kernel)) (by decide +kernel) (by decide +kernel) (by decide +kernel) (by decide +kernel) rfl g434 h1 <|
  bb_iload_n (n := 3) (i := 3) (zd (i := .iload_n 3) (n := 1) (by decide +kernel)) rfl rfl <|
  bb_lift (fun _ => q_zald (k := 253) (zd (i := .baload) (n := 1) (by decide +kernel)) (by decide +kernel) (by decide +kernel) h2) <|
  (fun lv hl => q_if_eq (off := 8) (tgt := 67) (zd (i := .ifCond .eq (8)) (n := 3) (by decide +kernel)) (by decide) (fun h => (kt h) lv hl) (fun h => (kf h) lv hl))
theorem w_X7_common_62 {Q : qQ} {I : qMI} {L : qML} {R : qMR} {a1 : Int32} {a2 : Int32} {a3 : Int32} {a4 : Int32} (k : wkB l G (d + 1) n_X7_common Q 68 [.ref 249, .int a1, .int a2, .int a3, .int a4] [.int a4] I L R) : wkB l G (d + 1) n_X7_common Q 62 [.ref 249, .int a1, .int a2, .int a3, .int a4] [] I L R :=
  bb_iload (i := 4) (zd (i := .iload 4) (n := 2) (by decide +kernel)) rfl <|
  bb_lift (fun _ => q_goto (off := 4) (tgt := 68) (zd (i := .goto (4)) (n := 3) (by decide +kernel)) (by decide)) k
theorem w_X7_common_67 {Q : qQ} {I : qMI} {L : qML} {R : qMR} {a1 : Int32} {a2 : Int32} {a3 : Int32} {a4 : Int32} (k : wkB l G (d + 1) n_X7_common Q 68 [.ref 249, .int a1, .int a2, .int a3, .int a4] [.int a2] I L R) : wkB l G (d + 1) n_X7_common Q 67 [.ref 249, .int a1, .int a2, .int a3, .int a4] [] I L R :=
  bb_iload_n (n := 2) (i := 2) (zd (i := .iload_n 2) (n := 1) (by decide +kernel)) rfl rfl <|
  k
theorem w_X7_common_68 {Q : qQ} {I : qMI} {L : qML} {R : qMR} {a1 : Int32} {a2 : Int32} {a3 : Int32} {a4 : Int32} {s0 : Int32} (k : wkB l G (d + 1) n_X7_common Q 5 [.ref 249, .int a1, .int s0, .int (a3 + 1), wkU] [] I L R) : wkB l G (d + 1) n_X7_common Q 68 [.ref 249, .int a1, .int a2, .int a3, .int a4] [.int s0] I L R :=
  bb_istore_n (n := 2) (i := 2) (zd (i := .istore_n 2) (n := 1) (by decide +kernel)) rfl (by decide +kernel) (wkNl_i rfl) <|
  bb_iinc (i := 3) (n := 1) (zd (i := .iinc 3 (1)) (n := 3) (by decide +kernel)) rfl rfl (by decide +kernel) (wkNl_i rfl) <|
  bb_lift (fun _ => q_goto (off := -67) (tgt := 5) (zd (i := .goto (-67)) (n := 3) (by decide +kernel)) (by decide)) (wkB_le (vs := [.ref 249, .int a1, .int s0, .int (a3 + 1), wkU]) (ws := [.ref 249, .int a1, .int s0, .int (a3 + 1), .int a4]) ⟨Or.inr rfl, Or.inr rfl, Or.inr rfl, Or.inr rfl, Or.inl rfl, trivial⟩ (k))
theorem w_X7_common_75 {Q : qQ} {I : qMI} {L : qML} {R : qMR} {a1 : Int32} {a2 : Int32} {a3 : Int32} (hQ : Q (some (.int a2)) 336 I L R) : wkB l G (d + 1) n_X7_common Q 75 [.ref 249, .int a1, .int a2, .int a3, wkU] [] I L R :=
  bb_iload_n (n := 2) (i := 2) (zd (i := .iload_n 2) (n := 1) (by decide +kernel)) rfl rfl <|
  (fun lv hl => q_iret (zd (i := .ireturn) (n := 1) (by decide +kernel)) rfl rfl (Nat.le_refl _) (Nat.le_refl _) hQ)
theorem w_X7_lookFrom_0 {Q : qQ} {I : qMI} {L : qML} {R : qMR} {o : Nat} (ho : o = 9 ∨ o = 259) {a2 : Int32} {P : Int32 → qMI → qML → qMR → Prop} (hc : wkCi l G d n_X0_heat [.ref o, .int a2] I L R P) (kk : ∀ y I' L' R', P y I' L' R' → wkB l G (d + 1) n_X7_lookFrom Q 5 [.ref 249, .ref o, .int a2, wkU, wkU, wkU, wkU, wkU] [.int y] I' L' R') : wkB l G (d + 1) n_X7_lookFrom Q 0 [.ref 249, .ref o, .int a2, wkU, wkU, wkU, wkU, wkU] [] I L R :=
  bb_aload_n (n := 1) (i := 1) (zd (i := .aload_n 1) (n := 1) (by decide +kernel)) rfl rfl <|
  bb_iload_n (n := 2) (i := 2) (zd (i := .iload_n 2) (n := 1) (by decide +kernel)) rfl rfl <|
  bb_callV (idx := 32) (k := o) (ci := 0) (N := n_X0_heat) (As := [.int a2]) (st := []) (zd (i := .invokevirtual 32) (n := 3) (by decide +kernel)) to_X0_heat g1046 g717 g718 (Nat.le_of_ble_eq_true rfl) (by rcases ho with rfl | rfl <;> decide +kernel) (by rcases ho with rfl | rfl <;> decide +kernel) (by decide +kernel) rfl rfl rfl hc (fun r I' L' R' hq => by obtain ⟨y, rfl, hp⟩ := hq; exact kk y I' L' R' hp)
theorem w_X7_lookFrom_5 {Q : qQ} {I : qMI} {L : qML} {R : qMR} {o : Nat} (ho : o = 9 ∨ o = 259) {a2 : Int32} {s0 : Int32} (k : wkB l G (d + 1) n_X7_lookFrom Q 17 [.ref 249, .ref o, .int a2, .int s0, .int 0, .int 181, .int 0, wkU] [] I L R) : wkB l G (d + 1) n_X7_lookFrom Q 5 [.ref 249, .ref o, .int a2, wkU, wkU, wkU, wkU, wkU] [.int s0] I L R :=
  bb_istore_n (n := 3) (i := 3) (zd (i := .istore_n 3) (n := 1) (by decide +kernel)) rfl (by decide +kernel) (wkNl_i rfl) <|
  bb_lift (fun _ => q_iconst (n := 0) (zd (i := .iconst (0)) (n := 1) (by decide +kernel)) rfl) <|
  bb_istore (i := 4) (zd (i := .istore 4) (n := 2) (by decide +kernel)) (by decide +kernel) (wkNl_i rfl) <|
  bb_lift (fun _ => q_sipush (n := 181) (zd (i := .sipush (181)) (n := 3) (by decide +kernel)) rfl) <|
  bb_istore (i := 5) (zd (i := .istore 5) (n := 2) (by decide +kernel)) (by decide +kernel) (wkNl_i rfl) <|
  bb_lift (fun _ => q_iconst (n := 0) (zd (i := .iconst (0)) (n := 1) (by decide +kernel)) rfl) <|
  bb_istore (i := 6) (zd (i := .istore 6) (n := 2) (by decide +kernel)) (by decide +kernel) (wkNl_i rfl) <|
  k
theorem w_X7_lookFrom_17 {Q : qQ} {I : qMI} {L : qML} {R : qMR} {o : Nat} (ho : o = 9 ∨ o = 259) {a2 : Int32} {a3 : Int32} {a4 : Int32} {a5 : Int32} {a6 : Int32} (kt : 20 ≤ a6 → wkB l G (d + 1) n_X7_lookFrom Q 56 [.ref 249, .ref o, .int a2, .int a3, .int a4, .int a5, .int a6, wkU] [] I L R) (kf : ¬ 20 ≤ a6 → wkB l G (d + 1) n_X7_lookFrom Q 24 [.ref 249, .ref o, .int a2, .int a3, .int a4, .int a5, .int a6, wkU] [] I L R) : wkB l G (d + 1) n_X7_lookFrom Q 17 [.ref 249, .ref o, .int a2, .int a3, .int a4, .int a5, .int a6, wkU] [] I L R :=
  bb_iload (i := 6) (zd (i := .iload 6) (n := 2) (by decide +kernel)) rfl <|
  bb_lift (fun _ => q_bipush (n := 20) (zd (i := .bipush (20)) (n := 2) (by decide +kernel)) rfl) <|
  (fun lv hl => q_icmp_ge (off := 35) (tgt := 56) (zd (i := .if_icmp .ge (35)) (n := 3) (by decide +kernel)) (by decide) (fun h => (kt h) lv hl) (fun h => (kf h) lv hl))
theorem w_X7_lookFrom_24 {Q : qQ} {I : qMI} {L : qML} {R : qMR} {o : Nat} (ho : o = 9 ∨ o = 259) {a2 : Int32} {a3 : Int32} {a4 : Int32} {a5 : Int32} {a6 : Int32} {P : Int32 → qMI → qML → qMR → Prop} (hc : wkCi l G d n_X7_worstLeft [.ref 249, .ref o, .int a6, .int a2, .int a3] I L R P) (kk : ∀ y I' L' R', P y I' L' R' → wkB l G (d + 1) n_X7_lookFrom Q 33 [.ref 249, .ref o, .int a2, .int a3, .int a4, .int a5, .int a6, wkU] [.int y] I' L' R') : wkB l G (d + 1) n_X7_lookFrom Q 24 [.ref 249, .ref o, .int a2, .int a3, .int a4, .int a5, .int a6, wkU] [] I L R :=
  bb_aload_n (n := 0) (i := 0) (zd (i := .aload_n 0) (n := 1) (by decide +kernel)) rfl rfl <|
  bb_aload_n (n := 1) (i := 1) (zd (i := .aload_n 1) (n := 1) (by decide +kernel)) rfl rfl <|
  bb_iload (i := 6) (zd (i := .iload 6) (n := 2) (by decide +kernel)) rfl <|
  bb_iload_n (n := 2) (i := 2) (zd (i := .iload_n 2) (n := 1) (by decide +kernel)) rfl rfl <|
  bb_iload_n (n := 3) (i := 3) (zd (i := .iload_n 3) (n := 1) (by decide +kernel)) rfl rfl <|
  bb_callV (idx := 62) (k := 249) (ci := 7) (N := n_X7_worstLeft) (As := [.ref o, .int a6, .int a2, .int a3]) (st := []) (zd (i := .invokevirtual 62) (n := 3) (by decide +kernel)) to_X7_worstLeft g1075 g1077 g39 (Nat.le_of_ble_eq_true rfl) (by decide +kernel) (by decide +kernel) (by decide +kernel) rfl rfl rfl hc (fun r I' L' R' hq => by obtain ⟨y, rfl, hp⟩ := hq; exact kk y I' L' R' hp)
theorem w_X7_lookFrom_33 {Q : qQ} {I : qMI} {L : qML} {R : qMR} {o : Nat} (ho : o = 9 ∨ o = 259) {a2 : Int32} {a3 : Int32} {a4 : Int32} {a5 : Int32} {a6 : Int32} {s0 : Int32} (kt : a5 ≤ s0 → wkB l G (d + 1) n_X7_lookFrom Q 50 [.ref 249, .ref o, .int a2, .int a3, .int a4, .int a5, .int a6, .int s0] [] I L R) (kf : ¬ a5 ≤ s0 → wkB l G (d + 1) n_X7_lookFrom Q 42 [.ref 249, .ref o, .int a2, .int a3, .int a4, .int a5, .int a6, .int s0] [] I L R) : wkB l G (d + 1) n_X7_lookFrom Q 33 [.ref 249, .ref o, .int a2, .int a3, .int a4, .int a5, .int a6, wkU] [.int s0] I L R :=
  bb_istore (i := 7) (zd (i := .istore 7) (n := 2) (by decide +kernel)) (by decide +kernel) (wkNl_i rfl) <|
  bb_iload (i := 7) (zd (i := .iload 7) (n := 2) (by decide +kernel)) rfl <|
  bb_iload (i := 5) (zd (i := .iload 5) (n := 2) (by decide +kernel)) rfl <|
  (fun lv hl => q_icmp_ge (off := 11) (tgt := 50) (zd (i := .if_icmp .ge (11)) (n := 3) (by decide +kernel)) (by decide) (fun h => (kt h) lv hl) (fun h => (kf h) lv hl))
theorem w_X7_lookFrom_42 {Q : qQ} {I : qMI} {L : qML} {R : qMR} {o : Nat} (ho : o = 9 ∨ o = 259) {a2 : Int32} {a3 : Int32} {a4 : Int32} {a5 : Int32} {a6 : Int32} {a7 : Int32} (k : wkB l G (d + 1) n_X7_lookFrom Q 50 [.ref 249, .ref o, .int a2, .int a3, .int a6, .int a7, .int a6, .int a7] [] I L R) : wkB l G (d + 1) n_X7_lookFrom Q 42 [.ref 249, .ref o, .int a2, .int a3, .int a4, .int a5, .int a6, .int a7] [] I L R :=
  bb_iload (i := 7) (zd (i := .iload 7) (n := 2) (by decide +kernel)) rfl <|
  bb_istore (i := 5) (zd (i := .istore 5) (n := 2) (by decide +kernel)) (by decide +kernel) (wkNl_i rfl) <|
  bb_iload (i := 6) (zd (i := .iload 6) (n := 2) (by decide +kernel)) rfl <|
  bb_istore (i := 4) (zd (i := .istore 4) (n := 2) (by decide +kernel)) (by decide +kernel) (wkNl_i rfl) <|
  k
theorem w_X7_lookFrom_50 {Q : qQ} {I : qMI} {L : qML} {R : qMR} {o : Nat} (ho : o = 9 ∨ o = 259) {a2 : Int32} {a3 : Int32} {a4 : Int32} {a5 : Int32} {a6 : Int32} {a7 : Int32} (k : wkB l G (d + 1) n_X7_lookFrom Q 17 [.ref 249, .ref o, .int a2, .int a3, .int a4, .int a5, .int (a6 + 1), wkU] [] I L R) : wkB l G (d + 1) n_X7_lookFrom Q 50 [.ref 249, .ref o, .int a2, .int a3, .int a4, .int a5, .int a6, .int a7] [] I L R :=
  bb_iinc (i := 6) (n := 1) (zd (i := .iinc 6 (1)) (n := 3) (by decide +kernel)) rfl rfl (by decide +kernel) (wkNl_i rfl) <|
  bb_lift (fun _ => q_goto (off := -36) (tgt := 17) (zd (i := .goto (-36)) (n := 3) (by decide +kernel)) (by decide)) (wkB_le (vs := [.ref 249, .ref o, .int a2, .int a3, .int a4, .int a5, .int (a6 + 1), wkU]) (ws := [.ref 249, .ref o, .int a2, .int a3, .int a4, .int a5, .int (a6 + 1), .int a7]) ⟨Or.inr rfl, Or.inr rfl, Or.inr rfl, Or.inr rfl, Or.inr rfl, Or.inr rfl, Or.inr rfl, Or.inl rfl, trivial⟩ (k))
theorem w_X7_lookFrom_56 {Q : qQ} {I : qMI} {L : qML} {R : qMR} {o : Nat} (ho : o = 9 ∨ o = 259) {a2 : Int32} {a3 : Int32} {a4 : Int32} {a5 : Int32} {a6 : Int32} (hQ : Q (some (.int a4)) 336 I L R) : wkB l G (d + 1) n_X7_lookFrom Q 56 [.ref 249, .ref o, .int a2, .int a3, .int a4, .int a5, .int a6, wkU] [] I L R :=
  bb_iload (i := 4) (zd (i := .iload 4) (n := 2) (by decide +kernel)) rfl <|
  (fun lv hl => q_iret (zd (i := .ireturn) (n := 1) (by decide +kernel)) rfl rfl (Nat.le_refl _) (Nat.le_refl _) hQ)
theorem w_X7_worstLeft_0 {Q : qQ} {I : qMI} {L : qML} {R : qMR} {o : Nat} (ho : o = 9 ∨ o = 259) {a2 : Int32} {a3 : Int32} {a4 : Int32} (k : wkB l G (d + 1) n_X7_worstLeft Q 3 [.ref 249, .ref o, .int a2, .int a3, .int a4, .int 0, wkU, wkU] [] I L R) : wkB l G (d + 1) n_X7_worstLeft Q 0 [.ref 249, .ref o, .int a2, .int a3, .int a4, wkU, wkU, wkU] [] I L R :=
  bb_lift (fun _ => q_iconst (n := 0) (zd (i := .iconst (0)) (n := 1) (by decide +kernel)) rfl) <|
  bb_istore (i := 5) (zd (i := .istore 5) (n := 2) (by decide +kernel)) (by decide +kernel) (wkNl_i rfl) <|
  k
theorem w_X7_worstLeft_3 {Q : qQ} {I : qMI} {L : qML} {R : qMR} {o : Nat} (ho : o = 9 ∨ o = 259) {a2 : Int32} {a3 : Int32} {a4 : Int32} {a5 : Int32} (kt : 20 < a5 → wkB l G (d + 1) n_X7_worstLeft Q 24 [.ref 249, .ref o, .int a2, .int a3, .int a4, .int a5, wkU, wkU] [] I L R) (kf : ¬ 20 < a5 → wkB l G (d + 1) n_X7_worstLeft Q 10 [.ref 249, .ref o, .int a2, .int a3, .int a4, .int a5, wkU, wkU] [] I L R) : wkB l G (d + 1) n_X7_worstLeft Q 3 [.ref 249, .ref o, .int a2, .int a3, .int a4, .int a5, wkU, wkU] [] I L R :=
  bb_iload (i := 5) (zd (i := .iload 5) (n := 2) (by decide +kernel)) rfl <|
  bb_lift (fun _ => q_bipush (n := 20) (zd (i := .bipush (20)) (n := 2) (by decide +kernel)) rfl) <|
  (fun lv hl => q_icmp_gt (off := 17) (tgt := 24) (zd (i := .if_icmp .gt (17)) (n := 3) (by decide +kernel)) (by decide) (fun h => (kt h) lv hl) (fun h => (kf h) lv hl))
theorem w_X7_worstLeft_10 {Q : qQ} {I : qMI} {L : qML} {R : qMR} {o : Nat} (ho : o = 9 ∨ o = 259) {a2 : Int32} {a3 : Int32} {a4 : Int32} {a5 : Int32} (h1 : R 249 5 = some 254) (h2 : vp_in a5 21) (k : wkB l G (d + 1) n_X7_worstLeft Q 3 [.ref 249, .ref o, .int a2, .int a3, .int a4, .int (a5 + 1), wkU, wkU] [] (qUp I 254 a5.toNatClampNeg 0) L R) : wkB l G (d + 1) n_X7_worstLeft Q 10 [.ref 249, .ref o, .int a2, .int a3, .int a4, .int a5, wkU, wkU] [] I L R :=
  bb_aload_n (n := 0) (i := 0) (zd (i := .aload_n 0) (n := 1) (by decide +kernel)) rfl rfl <|
  bb_getr (k := 249) (ci := 7) (j := 5) (idx := 29) (a := 254) (zd (i := .getfield 29) (n := 3) (by decide +kernel)) (by decide +kernel) (by decide +kernel) (by decide +kernel) (by decide +kernel) rfl g435 h1 <|
  bb_iload (i := 5) (zd (i := .iload 5) (n := 2) (by decide +kernel)) rfl <|
  bb_lift (fun _ => q_iconst (n := 0) (zd (i := .iconst (0)) (n := 1) (by decide +kernel)) rfl) <|
  bb_lift (fun _ => q_iast (k := 254) (zd (i := .iastore) (n := 1) (by decide +kernel)) (by decide +kernel) (by decide +kernel) h2) <|
  bb_iinc (i := 5) (n := 1) (zd (i := .iinc 5 (1)) (n := 3) (by decide +kernel)) rfl rfl (by decide +kernel) (wkNl_i rfl) <|
  bb_lift (fun _ => q_goto (off := -18) (tgt := 3) (zd (i := .goto (-18)) (n := 3) (by decide +kernel)) (by decide)) k
theorem w_X7_worstLeft_24 {Q : qQ} {I : qMI} {L : qML} {R : qMR} {o : Nat} (ho : o = 9 ∨ o = 259) {a2 : Int32} {a3 : Int32} {a4 : Int32} {a5 : Int32} (k : wkB l G (d + 1) n_X7_worstLeft Q 30 [.ref 249, .ref o, .int a2, .int a3, .int a4, .int 0, .int 0, wkU] [] I L R) : wkB l G (d + 1) n_X7_worstLeft Q 24 [.ref 249, .ref o, .int a2, .int a3, .int a4, .int a5, wkU, wkU] [] I L R :=
  bb_lift (fun _ => q_iconst (n := 0) (zd (i := .iconst (0)) (n := 1) (by decide +kernel)) rfl) <|
  bb_istore (i := 5) (zd (i := .istore 5) (n := 2) (by decide +kernel)) (by decide +kernel) (wkNl_i rfl) <|
  bb_lift (fun _ => q_iconst (n := 0) (zd (i := .iconst (0)) (n := 1) (by decide +kernel)) rfl) <|
  bb_istore (i := 6) (zd (i := .istore 6) (n := 2) (by decide +kernel)) (by decide +kernel) (wkNl_i rfl) <|
  k
theorem w_X7_worstLeft_30 {Q : qQ} {I : qMI} {L : qML} {R : qMR} {o : Nat} (ho : o = 9 ∨ o = 259) {a2 : Int32} {a3 : Int32} {a4 : Int32} {a5 : Int32} {a6 : Int32} (kt : 180 ≤ a6 → wkB l G (d + 1) n_X7_worstLeft Q 111 [.ref 249, .ref o, .int a2, .int a3, .int a4, .int a5, .int a6, wkU] [] I L R) (kf : ¬ 180 ≤ a6 → wkB l G (d + 1) n_X7_worstLeft Q 38 [.ref 249, .ref o, .int a2, .int a3, .int a4, .int a5, .int a6, wkU] [] I L R) : wkB l G (d + 1) n_X7_worstLeft Q 30 [.ref 249, .ref o, .int a2, .int a3, .int a4, .int a5, .int a6, wkU] [] I L R :=
  bb_iload (i := 6) (zd (i := .iload 6) (n := 2) (by decide +kernel)) rfl <|
  bb_lift (fun _ => q_sipush (n := 180) (zd (i := .sipush (180)) (n := 3) (by decide +kernel)) rfl) <|
  (fun lv hl => q_icmp_ge (off := 76) (tgt := 111) (zd (i := .if_icmp .ge (76)) (n := 3) (by decide +kernel)) (by decide) (fun h => (kt h) lv hl) (fun h => (kf h) lv hl))
theorem w_X7_worstLeft_38 {Q : qQ} {I : qMI} {L : qML} {R : qMR} {o : Nat} (ho : o = 9 ∨ o = 259) {a2 : Int32} {a3 : Int32} {a4 : Int32} {a5 : Int32} {a6 : Int32} (h1 : R 249 4 = some 253) (h2 : vp_in a6 180) (kt : (I 253 a6.toNatClampNeg) = 0 → wkB l G (d + 1) n_X7_worstLeft Q 105 [.ref 249, .ref o, .int a2, .int a3, .int a4, .int a5, .int a6, wkU] [] I L R) (kf : ¬ (I 253 a6.toNatClampNeg) = 0 → wkB l G (d + 1) n_X7_worstLeft Q 48 [.ref 249, .ref o, .int a2, .int a3, .int a4, .int a5, .int a6, wkU] [] I L R) : wkB l G (d + 1) n_X7_worstLeft Q 38 [.ref 249, .ref o, .int a2, .int a3, .int a4, .int a5, .int a6, wkU] [] I L R :=
  bb_aload_n (n := 0) (i := 0) (zd (i := .aload_n 0) (n := 1) (by decide +kernel)) rfl rfl <|
  bb_getr (k := 249) (ci := 7) (j := 4) (idx := 25) (a := 253) (zd (i := .getfield 25) (n := 3) (by decide +kernel)) (by decide +kernel) (by decide +kernel) (by decide +kernel) (by decide +kernel) rfl g434 h1 <|
  bb_iload (i := 6) (zd (i := .iload 6) (n := 2) (by decide +kernel)) rfl <|
  bb_lift (fun _ => q_zald (k := 253) (zd (i := .baload) (n := 1) (by decide +kernel)) (by decide +kernel) (by decide +kernel) h2) <|
  (fun lv hl => q_if_eq (off := 60) (tgt := 105) (zd (i := .ifCond .eq (60)) (n := 3) (by decide +kernel)) (by decide) (fun h => (kt h) lv hl) (fun h => (kf h) lv hl))
theorem w_X7_worstLeft_48 {Q : qQ} {I : qMI} {L : qML} {R : qMR} {o : Nat} (ho : o = 9 ∨ o = 259) {a2 : Int32} {a3 : Int32} {a4 : Int32} {a5 : Int32} {a6 : Int32} (h1 : R o 12 = some (o + 6)) {P : Int32 → qMI → qML → qMR → Prop} (hc : wkCi l G d n_X7_xOf [.int a6] I L R P) (kk : ∀ y I' L' R', P y I' L' R' → wkB l G (d + 1) n_X7_worstLeft Q 61 [.ref 249, .ref o, .int a2, .int a3, .int a4, .int a5, .int a6, wkU] [.int y, .int a2, .int a4, .int a3, .ref (o + 6)] I' L' R') : wkB l G (d + 1) n_X7_worstLeft Q 48 [.ref 249, .ref o, .int a2, .int a3, .int a4, .int a5, .int a6, wkU] [] I L R :=
  bb_aload_n (n := 1) (i := 1) (zd (i := .aload_n 1) (n := 1) (by decide +kernel)) rfl rfl <|
  bb_getr (k := o) (ci := 0) (j := 12) (idx := 42) (a := (o + 6)) (zd (i := .getfield 42) (n := 3) (by decide +kernel)) (by rcases ho with rfl | rfl <;> decide +kernel) (by rcases ho with rfl | rfl <;> decide +kernel) (by decide +kernel) (by decide +kernel) rfl g305 h1 <|
  bb_iload_n (n := 3) (i := 3) (zd (i := .iload_n 3) (n := 1) (by decide +kernel)) rfl rfl <|
  bb_iload (i := 4) (zd (i := .iload 4) (n := 2) (by decide +kernel)) rfl <|
  bb_iload_n (n := 2) (i := 2) (zd (i := .iload_n 2) (n := 1) (by decide +kernel)) rfl rfl <|
  bb_iload (i := 6) (zd (i := .iload 6) (n := 2) (by decide +kernel)) rfl <|
  bb_callS (idx := 46) (N := n_X7_xOf) (As := [.int a6]) (st := [.int a2, .int a4, .int a3, .ref (o + 6)]) (zd (i := .invokestatic 46) (n := 3) (by decide +kernel)) to_X7_xOf g1051 g1052 (Nat.le_of_ble_eq_true rfl) rfl rfl hc (fun r I' L' R' hq => by obtain ⟨y, rfl, hp⟩ := hq; exact kk y I' L' R' hp)
theorem w_X7_worstLeft_61 {Q : qQ} {I : qMI} {L : qML} {R : qMR} {o : Nat} (ho : o = 9 ∨ o = 259) {a2 : Int32} {a3 : Int32} {a4 : Int32} {a5 : Int32} {a6 : Int32} {s1 : Int32} {s2 : Int32} {s3 : Int32} {s4 : Int32} {P : Int32 → qMI → qML → qMR → Prop} (hc : wkCi l G d n_X7_tallOf [.int a6] I L R P) (kk : ∀ y I' L' R', P y I' L' R' → wkB l G (d + 1) n_X7_worstLeft Q 66 [.ref 249, .ref o, .int a2, .int a3, .int a4, .int a5, .int a6, wkU] [.int y, .int s4, .int s3, .int s2, .int s1, .ref (o + 6)] I' L' R') : wkB l G (d + 1) n_X7_worstLeft Q 61 [.ref 249, .ref o, .int a2, .int a3, .int a4, .int a5, .int a6, wkU] [.int s4, .int s3, .int s2, .int s1, .ref (o + 6)] I L R :=
  bb_iload (i := 6) (zd (i := .iload 6) (n := 2) (by decide +kernel)) rfl <|
  bb_callS (idx := 49) (N := n_X7_tallOf) (As := [.int a6]) (st := [.int s4, .int s3, .int s2, .int s1, .ref (o + 6)]) (zd (i := .invokestatic 49) (n := 3) (by decide +kernel)) to_X7_tallOf g1054 g1055 (Nat.le_of_ble_eq_true rfl) rfl rfl hc (fun r I' L' R' hq => by obtain ⟨y, rfl, hp⟩ := hq; exact kk y I' L' R' hp)
theorem w_X7_worstLeft_66 {Q : qQ} {I : qMI} {L : qML} {R : qMR} {o : Nat} (ho : o = 9 ∨ o = 259) {a2 : Int32} {a3 : Int32} {a4 : Int32} {a5 : Int32} {a6 : Int32} {s1 : Int32} {s2 : Int32} {s3 : Int32} {s4 : Int32} {s5 : Int32} {P : qMI → qML → qMR → Prop} (hc : wkCv l G d n_X2_aim [.ref (o + 6), .int s1, .int s2, .int s3, .int s4, .int s5] I L R P) (kk : ∀ I' L' R', P I' L' R' → wkB l G (d + 1) n_X7_worstLeft Q 69 [.ref 249, .ref o, .int a2, .int a3, .int a4, .int a5, .int a6, wkU] [] I' L' R') : wkB l G (d + 1) n_X7_worstLeft Q 66 [.ref 249, .ref o, .int a2, .int a3, .int a4, .int a5, .int a6, wkU] [.int s5, .int s4, .int s3, .int s2, .int s1, .ref (o + 6)] I L R :=
  bb_callV (idx := 52) (k := (o + 6)) (ci := 2) (N := n_X2_aim) (As := [.int s1, .int s2, .int s3, .int s4, .int s5]) (st := []) (zd (i := .invokevirtual 52) (n := 3) (by decide +kernel)) to_X2_aim g1057 g750 g751 (Nat.le_of_ble_eq_true rfl) (by rcases ho with rfl | rfl <;> decide +kernel) (by rcases ho with rfl | rfl <;> decide +kernel) (by decide +kernel) rfl rfl rfl hc (fun r I' L' R' hq => by obtain ⟨rfl, hp⟩ := hq; exact kk I' L' R' hp)
theorem w_X7_worstLeft_69 {Q : qQ} {I : qMI} {L : qML} {R : qMR} {o : Nat} (ho : o = 9 ∨ o = 259) {a2 : Int32} {a3 : Int32} {a4 : Int32} {a5 : Int32} {a6 : Int32} (h1 : R o 12 = some (o + 6)) {P : Int32 → qMI → qML → qMR → Prop} (hc : wkCi l G d n_X2_spot [.ref (o + 6)] I L R P) (kk : ∀ y I' L' R', P y I' L' R' → wkB l G (d + 1) n_X7_worstLeft Q 76 [.ref 249, .ref o, .int a2, .int a3, .int a4, .int a5, .int a6, wkU] [.int y] I' L' R') : wkB l G (d + 1) n_X7_worstLeft Q 69 [.ref 249, .ref o, .int a2, .int a3, .int a4, .int a5, .int a6, wkU] [] I L R :=
  bb_aload_n (n := 1) (i := 1) (zd (i := .aload_n 1) (n := 1) (by decide +kernel)) rfl rfl <|
  bb_getr (k := o) (ci := 0) (j := 12) (idx := 42) (a := (o + 6)) (zd (i := .getfield 42) (n := 3) (by decide +kernel)) (by rcases ho with rfl | rfl <;> decide +kernel) (by rcases ho with rfl | rfl <;> decide +kernel) (by decide +kernel) (by decide +kernel) rfl g305 h1 <|
  bb_callV (idx := 58) (k := (o + 6)) (ci := 2) (N := n_X2_spot) (As := []) (st := []) (zd (i := .invokevirtual 58) (n := 3) (by decide +kernel)) to_X2_spot g1058 g906 g907 (Nat.le_of_ble_eq_true rfl) (by rcases ho with rfl | rfl <;> decide +kernel) (by rcases ho with rfl | rfl <;> decide +kernel) (by decide +kernel) rfl rfl rfl hc (fun r I' L' R' hq => by obtain ⟨y, rfl, hp⟩ := hq; exact kk y I' L' R' hp)
theorem w_X7_worstLeft_76 {Q : qQ} {I : qMI} {L : qML} {R : qMR} {o : Nat} (ho : o = 9 ∨ o = 259) {a2 : Int32} {a3 : Int32} {a4 : Int32} {a5 : Int32} {a6 : Int32} {s0 : Int32} (h1 : R 249 5 = some 254) (h2 : vp_in (s0 + 1) 21) (h3 : vp_in (s0 + 1) 21) (h4 : R 249 5 = some 254) (h5 : vp_in (s0 + 1) 21) (k : wkB l G (d + 1) n_X7_worstLeft Q 105 [.ref 249, .ref o, .int a2, .int a3, .int a4, .int (if a5 < ((qUp I 254 (s0 + 1).toNatClampNeg ((I 254 (s0 + 1).toNatClampNeg) + 1)) 254 (s0 + 1).toNatClampNeg) then ((qUp I 254 (s0 + 1).toNatClampNeg ((I 254 (s0 + 1).toNatClampNeg) + 1)) 254 (s0 + 1).toNatClampNeg) else a5), .int a6, wkU] [] (qUp I 254 (s0 + 1).toNatClampNeg ((I 254 (s0 + 1).toNatClampNeg) + 1)) L R) : wkB l G (d + 1) n_X7_worstLeft Q 76 [.ref 249, .ref o, .int a2, .int a3, .int a4, .int a5, .int a6, wkU] [.int s0] I L R :=
  bb_lift (fun _ => q_iconst (n := 1) (zd (i := .iconst (1)) (n := 1) (by decide +kernel)) rfl) <|
  bb_lift (fun _ => q_iadd (zd (i := .iadd) (n := 1) (by decide +kernel))) <|
  bb_istore (i := 7) (zd (i := .istore 7) (n := 2) (by decide +kernel)) (by decide +kernel) (wkNl_i rfl) <|
  bb_aload_n (n := 0) (i := 0) (zd (i := .aload_n 0) (n := 1) (by decide +kernel)) rfl rfl <|
  bb_getr (k := 249) (ci := 7) (j := 5) (idx := 29) (a := 254) (zd (i := .getfield 29) (n := 3) (by decide +kernel)) (by decide +kernel) (by decide +kernel) (by decide +kernel) (by decide +kernel) rfl g435 h1 <|
  bb_iload (i := 7) (zd (i := .iload 7) (n := 2) (by decide +kernel)) rfl <|
  bb_lift (fun _ => q_dup2 (zd (i := .dup2) (n := 1) (by decide +kernel)) rfl rfl) <|
  bb_lift (fun _ => q_iald (k := 254) (zd (i := .iaload) (n := 1) (by decide +kernel)) (by decide +kernel) (by decide +kernel) h2) <|
  bb_lift (fun _ => q_iconst (n := 1) (zd (i := .iconst (1)) (n := 1) (by decide +kernel)) rfl) <|
  bb_lift (fun _ => q_iadd (zd (i := .iadd) (n := 1) (by decide +kernel))) <|
  bb_lift (fun _ => q_iast (k := 254) (zd (i := .iastore) (n := 1) (by decide +kernel)) (by decide +kernel) (by decide +kernel) h3) <|
  bb_iload (i := 5) (zd (i := .iload 5) (n := 2) (by decide +kernel)) rfl <|
  bb_aload_n (n := 0) (i := 0) (zd (i := .aload_n 0) (n := 1) (by decide +kernel)) rfl rfl <|
  bb_getr (k := 249) (ci := 7) (j := 5) (idx := 29) (a := 254) (zd (i := .getfield 29) (n := 3) (by decide +kernel)) (by decide +kernel) (by decide +kernel) (by decide +kernel) (by decide +kernel) rfl g435 h4 <|
  bb_iload (i := 7) (zd (i := .iload 7) (n := 2) (by decide +kernel)) rfl <|
  bb_lift (fun _ => q_iald (k := 254) (zd (i := .iaload) (n := 1) (by decide +kernel)) (by decide +kernel) (by decide +kernel) h5) <|
  bb_lift (fun _ => q_max (idx := 66) (zd (i := .invokestatic 66) (n := 3) (by decide +kernel)) g1079 g575 g111 g576 (Nat.le_of_ble_eq_true rfl) (Nat.le_refl _) (Nat.le_refl _)) <|
  bb_istore (i := 5) (zd (i := .istore 5) (n := 2) (by decide +kernel)) (by decide +kernel) (wkNl_i rfl) <|
  (wkB_le (vs := [.ref 249, .ref o, .int a2, .int a3, .int a4, .int (if a5 < ((qUp I 254 (s0 + 1).toNatClampNeg ((I 254 (s0 + 1).toNatClampNeg) + 1)) 254 (s0 + 1).toNatClampNeg) then ((qUp I 254 (s0 + 1).toNatClampNeg ((I 254 (s0 + 1).toNatClampNeg) + 1)) 254 (s0 + 1).toNatClampNeg) else a5), .int a6, wkU]) (ws := [.ref 249, .ref o, .int a2, .int a3, .int a4, .int (if a5 < ((qUp I 254 (s0 + 1).toNatClampNeg ((I 254 (s0 + 1).toNatClampNeg) + 1)) 254 (s0 + 1).toNatClampNeg) then ((qUp I 254 (s0 + 1).toNatClampNeg ((I 254 (s0 + 1).toNatClampNeg) + 1)) 254 (s0 + 1).toNatClampNeg) else a5), .int a6, .int (s0 + 1)]) ⟨Or.inr rfl, Or.inr rfl, Or.inr rfl, Or.inr rfl, Or.inr rfl, Or.inr rfl, Or.inr rfl, Or.inl rfl, trivial⟩ (k))
theorem w_X7_worstLeft_105 {Q : qQ} {I : qMI} {L : qML} {R : qMR} {o : Nat} (ho : o = 9 ∨ o = 259) {a2 : Int32} {a3 : Int32} {a4 : Int32} {a5 : Int32} {a6 : Int32} (k : wkB l G (d + 1) n_X7_worstLeft Q 30 [.ref 249, .ref o, .int a2, .int a3, .int a4, .int a5, .int (a6 + 1), wkU] [] I L R) : wkB l G (d + 1) n_X7_worstLeft Q 105 [.ref 249, .ref o, .int a2, .int a3, .int a4, .int a5, .int a6, wkU] [] I L R :=
  bb_iinc (i := 6) (n := 1) (zd (i := .iinc 6 (1)) (n := 3) (by decide +kernel)) rfl rfl (by decide +kernel) (wkNl_i rfl) <|
  bb_lift (fun _ => q_goto (off := -78) (tgt := 30) (zd (i := .goto (-78)) (n := 3) (by decide +kernel)) (by decide)) k
theorem w_X7_worstLeft_111 {Q : qQ} {I : qMI} {L : qML} {R : qMR} {o : Nat} (ho : o = 9 ∨ o = 259) {a2 : Int32} {a3 : Int32} {a4 : Int32} {a5 : Int32} {a6 : Int32} (hQ : Q (some (.int a5)) 336 I L R) : wkB l G (d + 1) n_X7_worstLeft Q 111 [.ref 249, .ref o, .int a2, .int a3, .int a4, .int a5, .int a6, wkU] [] I L R :=
  bb_iload (i := 5) (zd (i := .iload 5) (n := 2) (by decide +kernel)) rfl <|
  (fun lv hl => q_iret (zd (i := .ireturn) (n := 1) (by decide +kernel)) rfl rfl (Nat.le_refl _) (Nat.le_refl _) hQ)
theorem w_X7_xOf_0 {Q : qQ} {I : qMI} {L : qML} {R : qMR} {a0 : Int32} (hQ : Q (some (.int (a0 / 9))) 336 I L R) : wkB l G (d + 1) n_X7_xOf Q 0 [.int a0] [] I L R :=
  bb_iload_n (n := 0) (i := 0) (zd (i := .iload_n 0) (n := 1) (by decide +kernel)) rfl rfl <|
  bb_lift (fun _ => q_bipush (n := 9) (zd (i := .bipush (9)) (n := 2) (by decide +kernel)) rfl) <|
  bb_lift (fun _ => q_idiv (zd (i := .idiv) (n := 1) (by decide +kernel)) (by decide)) <|
  (fun lv hl => q_iret (zd (i := .ireturn) (n := 1) (by decide +kernel)) rfl rfl (Nat.le_refl _) (Nat.le_refl _) hQ)
theorem w_X7_tallOf_0 {Q : qQ} {I : qMI} {L : qML} {R : qMR} {a0 : Int32} (hQ : Q (some (.int ((a0 - a0 / 9 * 9) + 1))) 336 I L R) : wkB l G (d + 1) n_X7_tallOf Q 0 [.int a0] [] I L R :=
  bb_iload_n (n := 0) (i := 0) (zd (i := .iload_n 0) (n := 1) (by decide +kernel)) rfl rfl <|
  bb_lift (fun _ => q_bipush (n := 9) (zd (i := .bipush (9)) (n := 2) (by decide +kernel)) rfl) <|
  bb_lift (fun _ => q_irem (zd (i := .irem) (n := 1) (by decide +kernel)) (by decide)) <|
  bb_lift (fun _ => q_iconst (n := 1) (zd (i := .iconst (1)) (n := 1) (by decide +kernel)) rfl) <|
  bb_lift (fun _ => q_iadd (zd (i := .iadd) (n := 1) (by decide +kernel))) <|
  (fun lv hl => q_iret (zd (i := .ireturn) (n := 1) (by decide +kernel)) rfl rfl (Nat.le_refl _) (Nat.le_refl _) hQ)
end
