
section
variable {l : Launch} {G : qG} {d : Nat}
theorem w_X8_clash_0 {Q : qQ} {I : qMI} {L : qML} {R : qMR} {a1 : Int32} (kt : a1 < 0 → wkB l G (d + 1) n_X8_clash Q 9 [.ref 0, .int a1, wkU, wkU, wkU, wkU] [] I L R) (kf : ¬ a1 < 0 → wkB l G (d + 1) n_X8_clash Q 4 [.ref 0, .int a1, wkU, wkU, wkU, wkU] [] I L R) : wkB l G (d + 1) n_X8_clash Q 0 [.ref 0, .int a1, wkU, wkU, wkU, wkU] [] I L R :=
  bb_iload_n (n := 1) (i := 1) (zd (i := .iload_n 1) (n := 1) (by decide +kernel)) rfl rfl <|
  (fun lv hl => q_if_lt (off := 8) (tgt := 9) (zd (i := .ifCond .lt (8)) (n := 3) (by decide +kernel)) (by decide) (fun h => (kt h) lv hl) (fun h => (kf h) lv hl))
theorem w_X8_clash_4 {Q : qQ} {I : qMI} {L : qML} {R : qMR} {a1 : Int32} (kt : a1 ≤ 1 → wkB l G (d + 1) n_X8_clash Q 11 [.ref 0, .int a1, wkU, wkU, wkU, wkU] [] I L R) (kf : ¬ a1 ≤ 1 → wkB l G (d + 1) n_X8_clash Q 9 [.ref 0, .int a1, wkU, wkU, wkU, wkU] [] I L R) : wkB l G (d + 1) n_X8_clash Q 4 [.ref 0, .int a1, wkU, wkU, wkU, wkU] [] I L R :=
  bb_iload_n (n := 1) (i := 1) (zd (i := .iload_n 1) (n := 1) (by decide +kernel)) rfl rfl <|
  bb_lift (fun _ => q_iconst (n := 1) (zd (i := .iconst (1)) (n := 1) (by decide +kernel)) rfl) <|
  (fun lv hl => q_icmp_le (off := 5) (tgt := 11) (zd (i := .if_icmp .le (5)) (n := 3) (by decide +kernel)) (by decide) (fun h => (kt h) lv hl) (fun h => (kf h) lv hl))
theorem w_X8_clash_9 {Q : qQ} {I : qMI} {L : qML} {R : qMR} {a1 : Int32} (hQ : Q (some (.int (-1))) 336 I L R) : wkB l G (d + 1) n_X8_clash Q 9 [.ref 0, .int a1, wkU, wkU, wkU, wkU] [] I L R :=
  bb_lift (fun _ => q_iconst (n := -1) (zd (i := .iconst (-1)) (n := 1) (by decide +kernel)) rfl) <|
  (fun lv hl => q_iret (zd (i := .ireturn) (n := 1) (by decide +kernel)) rfl rfl (Nat.le_refl _) (Nat.le_refl _) hQ)
theorem w_X8_clash_11 {Q : qQ} {I : qMI} {L : qML} {R : qMR} {a1 : Int32} {P : qMI → qML → qMR → Prop} (hc : wkCv l G d n_X8_findSpotsLentOn [.ref 0] I L R P) (kk : ∀ I' L' R', P I' L' R' → wkB l G (d + 1) n_X8_clash Q 15 [.ref 0, .int a1, wkU, wkU, wkU, wkU] [] I' L' R') : wkB l G (d + 1) n_X8_clash Q 11 [.ref 0, .int a1, wkU, wkU, wkU, wkU] [] I L R :=
  bb_aload_n (n := 0) (i := 0) (zd (i := .aload_n 0) (n := 1) (by decide +kernel)) rfl rfl <|
  bb_callV (idx := 227) (k := 0) (ci := 8) (N := n_X8_findSpotsLentOn) (As := []) (st := []) (zd (i := .invokevirtual 227) (n := 3) (by decide +kernel)) to_X8_findSpotsLentOn g915 g917 g29 (Nat.le_of_ble_eq_true rfl) (by decide +kernel) (by decide +kernel) (by decide +kernel) rfl rfl rfl hc (fun r I' L' R' hq => by obtain ⟨rfl, hp⟩ := hq; exact kk I' L' R' hp)
theorem w_X8_clash_15 {Q : qQ} {I : qMI} {L : qML} {R : qMR} {a1 : Int32} (k : wkB l G (d + 1) n_X8_clash Q 23 [.ref 0, .int a1, .int 0, .int (-2), .int 0, wkU] [] I L R) : wkB l G (d + 1) n_X8_clash Q 15 [.ref 0, .int a1, wkU, wkU, wkU, wkU] [] I L R :=
  bb_lift (fun _ => q_iconst (n := 0) (zd (i := .iconst (0)) (n := 1) (by decide +kernel)) rfl) <|
  bb_istore_n (n := 2) (i := 2) (zd (i := .istore_n 2) (n := 1) (by decide +kernel)) rfl (by decide +kernel) (wkNl_i rfl) <|
  bb_lift (fun _ => q_bipush (n := -2) (zd (i := .bipush (-2)) (n := 2) (by decide +kernel)) rfl) <|
  bb_istore_n (n := 3) (i := 3) (zd (i := .istore_n 3) (n := 1) (by decide +kernel)) rfl (by decide +kernel) (wkNl_i rfl) <|
  bb_lift (fun _ => q_iconst (n := 0) (zd (i := .iconst (0)) (n := 1) (by decide +kernel)) rfl) <|
  bb_istore (i := 4) (zd (i := .istore 4) (n := 2) (by decide +kernel)) (by decide +kernel) (wkNl_i rfl) <|
  k
theorem w_X8_clash_23 {Q : qQ} {I : qMI} {L : qML} {R : qMR} {o : Nat} (ho : o = 9 ∨ o = 259) {a1 : Int32} {a2 : Int32} {a3 : Int32} {a4 : Int32} (h1 : R 0 12 = some o) (kt : (I o 5) ≤ a4 → wkB l G (d + 1) n_X8_clash Q 96 [.ref 0, .int a1, .int a2, .int a3, .int a4, wkU] [] I L R) (kf : ¬ (I o 5) ≤ a4 → wkB l G (d + 1) n_X8_clash Q 35 [.ref 0, .int a1, .int a2, .int a3, .int a4, wkU] [] I L R) : wkB l G (d + 1) n_X8_clash Q 23 [.ref 0, .int a1, .int a2, .int a3, .int a4, wkU] [] I L R :=
  bb_iload (i := 4) (zd (i := .iload 4) (n := 2) (by decide +kernel)) rfl <|
  bb_aload_n (n := 0) (i := 0) (zd (i := .aload_n 0) (n := 1) (by decide +kernel)) rfl rfl <|
  bb_getr (k := 0) (ci := 8) (j := 12) (idx := 71) (a := o) (zd (i := .getfield 71) (n := 3) (by decide +kernel)) (by decide +kernel) (by decide +kernel) (by decide +kernel) (by decide +kernel) rfl g464 h1 <|
  bb_geti (k := o) (ci := 0) (j := 5) (idx := 230) (zd (i := .getfield 230) (n := 3) (by decide +kernel)) (by rcases ho with rfl | rfl <;> decide +kernel) (by rcases ho with rfl | rfl <;> decide +kernel) (by decide +kernel) (by decide +kernel) rfl g288 <|
  (fun lv hl => q_icmp_ge (off := 64) (tgt := 96) (zd (i := .if_icmp .ge (64)) (n := 3) (by decide +kernel)) (by decide) (fun h => (kt h) lv hl) (fun h => (kf h) lv hl))
theorem w_X8_clash_35 {Q : qQ} {I : qMI} {L : qML} {R : qMR} {a1 : Int32} {a2 : Int32} {a3 : Int32} {a4 : Int32} (k : wkB l G (d + 1) n_X8_clash Q 41 [.ref 0, .int a1, .int a2, .int a3, .int a4, .int (a4 + 1)] [] I L R) : wkB l G (d + 1) n_X8_clash Q 35 [.ref 0, .int a1, .int a2, .int a3, .int a4, wkU] [] I L R :=
  bb_iload (i := 4) (zd (i := .iload 4) (n := 2) (by decide +kernel)) rfl <|
  bb_lift (fun _ => q_iconst (n := 1) (zd (i := .iconst (1)) (n := 1) (by decide +kernel)) rfl) <|
  bb_lift (fun _ => q_iadd (zd (i := .iadd) (n := 1) (by decide +kernel))) <|
  bb_istore (i := 5) (zd (i := .istore 5) (n := 2) (by decide +kernel)) (by decide +kernel) (wkNl_i rfl) <|
  k
theorem w_X8_clash_41 {Q : qQ} {I : qMI} {L : qML} {R : qMR} {o : Nat} (ho : o = 9 ∨ o = 259) {a1 : Int32} {a2 : Int32} {a3 : Int32} {a4 : Int32} {a5 : Int32} (h1 : R 0 12 = some o) (kt : (I o 5) ≤ a5 → wkB l G (d + 1) n_X8_clash Q 90 [.ref 0, .int a1, .int a2, .int a3, .int a4, .int a5] [] I L R) (kf : ¬ (I o 5) ≤ a5 → wkB l G (d + 1) n_X8_clash Q 53 [.ref 0, .int a1, .int a2, .int a3, .int a4, .int a5] [] I L R) : wkB l G (d + 1) n_X8_clash Q 41 [.ref 0, .int a1, .int a2, .int a3, .int a4, .int a5] [] I L R :=
  bb_iload (i := 5) (zd (i := .iload 5) (n := 2) (by decide +kernel)) rfl <|
  bb_aload_n (n := 0) (i := 0) (zd (i := .aload_n 0) (n := 1) (by decide +kernel)) rfl rfl <|
  bb_getr (k := 0) (ci := 8) (j := 12) (idx := 71) (a := o) (zd (i := .getfield 71) (n := 3) (by decide +kernel)) (by decide +kernel) (by decide +kernel) (by decide +kernel) (by decide +kernel) rfl g464 h1 <|
  bb_geti (k := o) (ci := 0) (j := 5) (idx := 230) (zd (i := .getfield 230) (n := 3) (by decide +kernel)) (by rcases ho with rfl | rfl <;> decide +kernel) (by rcases ho with rfl | rfl <;> decide +kernel) (by decide +kernel) (by decide +kernel) rfl g288 <|
  (fun lv hl => q_icmp_ge (off := 40) (tgt := 90) (zd (i := .if_icmp .ge (40)) (n := 3) (by decide +kernel)) (by decide) (fun h => (kt h) lv hl) (fun h => (kf h) lv hl))
theorem w_X8_clash_53 {Q : qQ} {I : qMI} {L : qML} {R : qMR} {a1 : Int32} {a2 : Int32} {a3 : Int32} {a4 : Int32} {a5 : Int32} {P : Int32 → qMI → qML → qMR → Prop} (hc : wkCi l G d n_X8_titlesClash [.ref 0, .int a4, .int a5] I L R P) (kk : ∀ y I' L' R', P y I' L' R' → wkB l G (d + 1) n_X8_clash Q 61 [.ref 0, .int a1, .int a2, .int a3, .int a4, .int a5] [.int y] I' L' R') : wkB l G (d + 1) n_X8_clash Q 53 [.ref 0, .int a1, .int a2, .int a3, .int a4, .int a5] [] I L R :=
  bb_aload_n (n := 0) (i := 0) (zd (i := .aload_n 0) (n := 1) (by decide +kernel)) rfl rfl <|
  bb_iload (i := 4) (zd (i := .iload 4) (n := 2) (by decide +kernel)) rfl <|
  bb_iload (i := 5) (zd (i := .iload 5) (n := 2) (by decide +kernel)) rfl <|
  bb_callV (idx := 233) (k := 0) (ci := 8) (N := n_X8_titlesClash) (As := [.int a4, .int a5]) (st := []) (zd (i := .invokevirtual 233) (n := 3) (by decide +kernel)) to_X8_titlesClash g919 g921 g30 (Nat.le_of_ble_eq_true rfl) (by decide +kernel) (by decide +kernel) (by decide +kernel) rfl rfl rfl hc (fun r I' L' R' hq => by obtain ⟨y, rfl, hp⟩ := hq; exact kk y I' L' R' hp)
theorem w_X8_clash_61 {Q : qQ} {I : qMI} {L : qML} {R : qMR} {a1 : Int32} {a2 : Int32} {a3 : Int32} {a4 : Int32} {a5 : Int32} {s0 : Int32} (kt : s0 = 0 → wkB l G (d + 1) n_X8_clash Q 84 [.ref 0, .int a1, .int a2, .int a3, .int a4, .int a5] [] I L R) (kf : ¬ s0 = 0 → wkB l G (d + 1) n_X8_clash Q 64 [.ref 0, .int a1, .int a2, .int a3, .int a4, .int a5] [] I L R) : wkB l G (d + 1) n_X8_clash Q 61 [.ref 0, .int a1, .int a2, .int a3, .int a4, .int a5] [.int s0] I L R :=
  (fun lv hl => q_if_eq (off := 23) (tgt := 84) (zd (i := .ifCond .eq (23)) (n := 3) (by decide +kernel)) (by decide) (fun h => (kt h) lv hl) (fun h => (kf h) lv hl))
theorem w_X8_clash_64 {Q : qQ} {I : qMI} {L : qML} {R : qMR} {a1 : Int32} {a2 : Int32} {a3 : Int32} {a4 : Int32} {a5 : Int32} (kt : ¬ a2 = 0 → wkB l G (d + 1) n_X8_clash Q 79 [.ref 0, .int a1, .int a2, .int a3, .int a4, .int a5] [] I L R) (kf : a2 = 0 → wkB l G (d + 1) n_X8_clash Q 68 [.ref 0, .int a1, .int a2, .int a3, .int a4, .int a5] [] I L R) : wkB l G (d + 1) n_X8_clash Q 64 [.ref 0, .int a1, .int a2, .int a3, .int a4, .int a5] [] I L R :=
  bb_iload_n (n := 2) (i := 2) (zd (i := .iload_n 2) (n := 1) (by decide +kernel)) rfl rfl <|
  (fun lv hl => q_if_ne (off := 14) (tgt := 79) (zd (i := .ifCond .ne (14)) (n := 3) (by decide +kernel)) (by decide) (fun h => (kt h) lv hl) (fun h => (kf h) lv hl))
theorem w_X8_clash_68 {Q : qQ} {I : qMI} {L : qML} {R : qMR} {a1 : Int32} {a2 : Int32} {a3 : Int32} {a4 : Int32} {a5 : Int32} (k : wkB l G (d + 1) n_X8_clash Q 80 [.ref 0, .int a1, .int a2, .int a3, .int a4, .int a5] [.int ((10 * a4) + a5)] I L R) : wkB l G (d + 1) n_X8_clash Q 68 [.ref 0, .int a1, .int a2, .int a3, .int a4, .int a5] [] I L R :=
  bb_lift (fun _ => q_bipush (n := 10) (zd (i := .bipush (10)) (n := 2) (by decide +kernel)) rfl) <|
  bb_iload (i := 4) (zd (i := .iload 4) (n := 2) (by decide +kernel)) rfl <|
  bb_lift (fun _ => q_imul (zd (i := .imul) (n := 1) (by decide +kernel))) <|
  bb_iload (i := 5) (zd (i := .iload 5) (n := 2) (by decide +kernel)) rfl <|
  bb_lift (fun _ => q_iadd (zd (i := .iadd) (n := 1) (by decide +kernel))) <|
  bb_lift (fun _ => q_goto (off := 4) (tgt := 80) (zd (i := .goto (4)) (n := 3) (by decide +kernel)) (by decide)) k
theorem w_X8_clash_79 {Q : qQ} {I : qMI} {L : qML} {R : qMR} {a1 : Int32} {a2 : Int32} {a3 : Int32} {a4 : Int32} {a5 : Int32} (k : wkB l G (d + 1) n_X8_clash Q 80 [.ref 0, .int a1, .int a2, .int a3, .int a4, .int a5] [.int a3] I L R) : wkB l G (d + 1) n_X8_clash Q 79 [.ref 0, .int a1, .int a2, .int a3, .int a4, .int a5] [] I L R :=
  bb_iload_n (n := 3) (i := 3) (zd (i := .iload_n 3) (n := 1) (by decide +kernel)) rfl rfl <|
  k
theorem w_X8_clash_80 {Q : qQ} {I : qMI} {L : qML} {R : qMR} {a1 : Int32} {a2 : Int32} {a3 : Int32} {a4 : Int32} {a5 : Int32} {s0 : Int32} (k : wkB l G (d + 1) n_X8_clash Q 84 [.ref 0, .int a1, .int (a2 + 1), .int s0, .int a4, .int a5] [] I L R) : wkB l G (d + 1) n_X8_clash Q 80 [.ref 0, .int a1, .int a2, .int a3, .int a4, .int a5] [.int s0] I L R :=
  bb_istore_n (n := 3) (i := 3) (zd (i := .istore_n 3) (n := 1) (by decide +kernel)) rfl (by decide +kernel) (wkNl_i rfl) <|
  bb_iinc (i := 2) (n := 1) (zd (i := .iinc 2 (1)) (n := 3) (by decide +kernel)) rfl rfl (by decide +kernel) (wkNl_i rfl) <|
  k
theorem w_X8_clash_84 {Q : qQ} {I : qMI} {L : qML} {R : qMR} {a1 : Int32} {a2 : Int32} {a3 : Int32} {a4 : Int32} {a5 : Int32} (k : wkB l G (d + 1) n_X8_clash Q 41 [.ref 0, .int a1, .int a2, .int a3, .int a4, .int (a5 + 1)] [] I L R) : wkB l G (d + 1) n_X8_clash Q 84 [.ref 0, .int a1, .int a2, .int a3, .int a4, .int a5] [] I L R :=
  bb_iinc (i := 5) (n := 1) (zd (i := .iinc 5 (1)) (n := 3) (by decide +kernel)) rfl rfl (by decide +kernel) (wkNl_i rfl) <|
  bb_lift (fun _ => q_goto (off := -46) (tgt := 41) (zd (i := .goto (-46)) (n := 3) (by decide +kernel)) (by decide)) k
theorem w_X8_clash_90 {Q : qQ} {I : qMI} {L : qML} {R : qMR} {a1 : Int32} {a2 : Int32} {a3 : Int32} {a4 : Int32} {a5 : Int32} (k : wkB l G (d + 1) n_X8_clash Q 23 [.ref 0, .int a1, .int a2, .int a3, .int (a4 + 1), wkU] [] I L R) : wkB l G (d + 1) n_X8_clash Q 90 [.ref 0, .int a1, .int a2, .int a3, .int a4, .int a5] [] I L R :=
  bb_iinc (i := 4) (n := 1) (zd (i := .iinc 4 (1)) (n := 3) (by decide +kernel)) rfl rfl (by decide +kernel) (wkNl_i rfl) <|
  bb_lift (fun _ => q_goto (off := -70) (tgt := 23) (zd (i := .goto (-70)) (n := 3) (by decide +kernel)) (by decide)) (wkB_le (vs := [.ref 0, .int a1, .int a2, .int a3, .int (a4 + 1), wkU]) (ws := [.ref 0, .int a1, .int a2, .int a3, .int (a4 + 1), .int a5]) ⟨Or.inr rfl, Or.inr rfl, Or.inr rfl, Or.inr rfl, Or.inr rfl, Or.inl rfl, trivial⟩ (k))
theorem w_X8_clash_96 {Q : qQ} {I : qMI} {L : qML} {R : qMR} {a1 : Int32} {a2 : Int32} {a3 : Int32} {a4 : Int32} (kt : ¬ a1 = 0 → wkB l G (d + 1) n_X8_clash Q 104 [.ref 0, .int a1, .int a2, .int a3, .int a4, wkU] [] I L R) (kf : a1 = 0 → wkB l G (d + 1) n_X8_clash Q 100 [.ref 0, .int a1, .int a2, .int a3, .int a4, wkU] [] I L R) : wkB l G (d + 1) n_X8_clash Q 96 [.ref 0, .int a1, .int a2, .int a3, .int a4, wkU] [] I L R :=
  bb_iload_n (n := 1) (i := 1) (zd (i := .iload_n 1) (n := 1) (by decide +kernel)) rfl rfl <|
  (fun lv hl => q_if_ne (off := 7) (tgt := 104) (zd (i := .ifCond .ne (7)) (n := 3) (by decide +kernel)) (by decide) (fun h => (kt h) lv hl) (fun h => (kf h) lv hl))
theorem w_X8_clash_100 {Q : qQ} {I : qMI} {L : qML} {R : qMR} {a1 : Int32} {a2 : Int32} {a3 : Int32} {a4 : Int32} (k : wkB l G (d + 1) n_X8_clash Q 105 [.ref 0, .int a1, .int a2, .int a3, .int a4, wkU] [.int a2] I L R) : wkB l G (d + 1) n_X8_clash Q 100 [.ref 0, .int a1, .int a2, .int a3, .int a4, wkU] [] I L R :=
  bb_iload_n (n := 2) (i := 2) (zd (i := .iload_n 2) (n := 1) (by decide +kernel)) rfl rfl <|
  bb_lift (fun _ => q_goto (off := 4) (tgt := 105) (zd (i := .goto (4)) (n := 3) (by decide +kernel)) (by decide)) k
theorem w_X8_clash_104 {Q : qQ} {I : qMI} {L : qML} {R : qMR} {a1 : Int32} {a2 : Int32} {a3 : Int32} {a4 : Int32} (k : wkB l G (d + 1) n_X8_clash Q 105 [.ref 0, .int a1, .int a2, .int a3, .int a4, wkU] [.int a3] I L R) : wkB l G (d + 1) n_X8_clash Q 104 [.ref 0, .int a1, .int a2, .int a3, .int a4, wkU] [] I L R :=
  bb_iload_n (n := 3) (i := 3) (zd (i := .iload_n 3) (n := 1) (by decide +kernel)) rfl rfl <|
  k
theorem w_X8_clash_105 {Q : qQ} {I : qMI} {L : qML} {R : qMR} {a1 : Int32} {a2 : Int32} {a3 : Int32} {a4 : Int32} {s0 : Int32} (hQ : Q (some (.int s0)) 336 I L R) : wkB l G (d + 1) n_X8_clash Q 105 [.ref 0, .int a1, .int a2, .int a3, .int a4, wkU] [.int s0] I L R :=
  (fun lv hl => q_iret (zd (i := .ireturn) (n := 1) (by decide +kernel)) rfl rfl (Nat.le_refl _) (Nat.le_refl _) hQ)
theorem w_X8_findSpotsLentOn_0 {Q : qQ} {I : qMI} {L : qML} {R : qMR} {o : Nat} (ho : o = 9 ∨ o = 259)  (h1 : R 0 12 = some o) (h2 : R 0 2 = some 21) {P : Int32 → qMI → qML → qMR → Prop} (hc : wkCi l G d n_X0_heat [.ref o, .int (I 21 0)] I L R P) (kk : ∀ y I' L' R', P y I' L' R' → wkB l G (d + 1) n_X8_findSpotsLentOn Q 14 [.ref 0, wkU, wkU, wkU, wkU] [.int y] I' L' R') : wkB l G (d + 1) n_X8_findSpotsLentOn Q 0 [.ref 0, wkU, wkU, wkU, wkU] [] I L R :=
  bb_aload_n (n := 0) (i := 0) (zd (i := .aload_n 0) (n := 1) (by decide +kernel)) rfl rfl <|
  bb_getr (k := 0) (ci := 8) (j := 12) (idx := 71) (a := o) (zd (i := .getfield 71) (n := 3) (by decide +kernel)) (by decide +kernel) (by decide +kernel) (by decide +kernel) (by decide +kernel) rfl g464 h1 <|
  bb_aload_n (n := 0) (i := 0) (zd (i := .aload_n 0) (n := 1) (by decide +kernel)) rfl rfl <|
  bb_getr (k := 0) (ci := 8) (j := 2) (idx := 26) (a := 21) (zd (i := .getfield 26) (n := 3) (by decide +kernel)) (by decide +kernel) (by decide +kernel) (by decide +kernel) (by decide +kernel) rfl g454 h2 <|
  bb_geti (k := 21) (ci := 4) (j := 0) (idx := 140) (zd (i := .getfield 140) (n := 3) (by decide +kernel)) (by decide +kernel) (by decide +kernel) (by decide +kernel) (by decide +kernel) rfl g368 <|
  bb_callV (idx := 143) (k := o) (ci := 0) (N := n_X0_heat) (As := [.int (I 21 0)]) (st := []) (zd (i := .invokevirtual 143) (n := 3) (by decide +kernel)) to_X0_heat g716 g717 g718 (Nat.le_of_ble_eq_true rfl) (by rcases ho with rfl | rfl <;> decide +kernel) (by rcases ho with rfl | rfl <;> decide +kernel) (by decide +kernel) rfl rfl rfl hc (fun r I' L' R' hq => by obtain ⟨y, rfl, hp⟩ := hq; exact kk y I' L' R' hp)
theorem w_X8_findSpotsLentOn_14 {Q : qQ} {I : qMI} {L : qML} {R : qMR} {s0 : Int32} (k : wkB l G (d + 1) n_X8_findSpotsLentOn Q 17 [.ref 0, .int s0, .int 0, wkU, wkU] [] I L R) : wkB l G (d + 1) n_X8_findSpotsLentOn Q 14 [.ref 0, wkU, wkU, wkU, wkU] [.int s0] I L R :=
  bb_istore_n (n := 1) (i := 1) (zd (i := .istore_n 1) (n := 1) (by decide +kernel)) rfl (by decide +kernel) (wkNl_r rfl) <|
  bb_lift (fun _ => q_iconst (n := 0) (zd (i := .iconst (0)) (n := 1) (by decide +kernel)) rfl) <|
  bb_istore_n (n := 2) (i := 2) (zd (i := .istore_n 2) (n := 1) (by decide +kernel)) rfl (by decide +kernel) (wkNl_i rfl) <|
  k
theorem w_X8_findSpotsLentOn_17 {Q : qQ} {I : qMI} {L : qML} {R : qMR} {o : Nat} (ho : o = 9 ∨ o = 259) {a1 : Int32} {a2 : Int32} (h1 : R 0 12 = some o) (kt : (I o 5) ≤ a2 → wkB l G (d + 1) n_X8_findSpotsLentOn Q 109 [.ref 0, .int a1, .int a2, wkU, wkU] [] I L R) (kf : ¬ (I o 5) ≤ a2 → wkB l G (d + 1) n_X8_findSpotsLentOn Q 28 [.ref 0, .int a1, .int a2, wkU, wkU] [] I L R) : wkB l G (d + 1) n_X8_findSpotsLentOn Q 17 [.ref 0, .int a1, .int a2, wkU, wkU] [] I L R :=
  bb_iload_n (n := 2) (i := 2) (zd (i := .iload_n 2) (n := 1) (by decide +kernel)) rfl rfl <|
  bb_aload_n (n := 0) (i := 0) (zd (i := .aload_n 0) (n := 1) (by decide +kernel)) rfl rfl <|
  bb_getr (k := 0) (ci := 8) (j := 12) (idx := 71) (a := o) (zd (i := .getfield 71) (n := 3) (by decide +kernel)) (by decide +kernel) (by decide +kernel) (by decide +kernel) (by decide +kernel) rfl g464 h1 <|
  bb_geti (k := o) (ci := 0) (j := 5) (idx := 230) (zd (i := .getfield 230) (n := 3) (by decide +kernel)) (by rcases ho with rfl | rfl <;> decide +kernel) (by rcases ho with rfl | rfl <;> decide +kernel) (by decide +kernel) (by decide +kernel) rfl g288 <|
  (fun lv hl => q_icmp_ge (off := 84) (tgt := 109) (zd (i := .if_icmp .ge (84)) (n := 3) (by decide +kernel)) (by decide) (fun h => (kt h) lv hl) (fun h => (kf h) lv hl))
theorem w_X8_findSpotsLentOn_28 {Q : qQ} {I : qMI} {L : qML} {R : qMR} {a1 : Int32} {a2 : Int32} (k : wkB l G (d + 1) n_X8_findSpotsLentOn Q 30 [.ref 0, .int a1, .int a2, .int 0, wkU] [] I L R) : wkB l G (d + 1) n_X8_findSpotsLentOn Q 28 [.ref 0, .int a1, .int a2, wkU, wkU] [] I L R :=
  bb_lift (fun _ => q_iconst (n := 0) (zd (i := .iconst (0)) (n := 1) (by decide +kernel)) rfl) <|
  bb_istore_n (n := 3) (i := 3) (zd (i := .istore_n 3) (n := 1) (by decide +kernel)) rfl (by decide +kernel) (wkNl_i rfl) <|
  k
theorem w_X8_findSpotsLentOn_30 {Q : qQ} {I : qMI} {L : qML} {R : qMR} {o : Nat} (ho : o = 9 ∨ o = 259) {a1 : Int32} {a2 : Int32} {a3 : Int32} (h1 : R 0 12 = some o) (kt : (I o 2) ≤ a3 → wkB l G (d + 1) n_X8_findSpotsLentOn Q 103 [.ref 0, .int a1, .int a2, .int a3, wkU] [] I L R) (kf : ¬ (I o 2) ≤ a3 → wkB l G (d + 1) n_X8_findSpotsLentOn Q 41 [.ref 0, .int a1, .int a2, .int a3, wkU] [] I L R) : wkB l G (d + 1) n_X8_findSpotsLentOn Q 30 [.ref 0, .int a1, .int a2, .int a3, wkU] [] I L R :=
  bb_iload_n (n := 3) (i := 3) (zd (i := .iload_n 3) (n := 1) (by decide +kernel)) rfl rfl <|
  bb_aload_n (n := 0) (i := 0) (zd (i := .aload_n 0) (n := 1) (by decide +kernel)) rfl rfl <|
  bb_getr (k := 0) (ci := 8) (j := 12) (idx := 71) (a := o) (zd (i := .getfield 71) (n := 3) (by decide +kernel)) (by decide +kernel) (by decide +kernel) (by decide +kernel) (by decide +kernel) rfl g464 h1 <|
  bb_geti (k := o) (ci := 0) (j := 2) (idx := 236) (zd (i := .getfield 236) (n := 3) (by decide +kernel)) (by rcases ho with rfl | rfl <;> decide +kernel) (by rcases ho with rfl | rfl <;> decide +kernel) (by decide +kernel) (by decide +kernel) rfl g280 <|
  (fun lv hl => q_icmp_ge (off := 65) (tgt := 103) (zd (i := .if_icmp .ge (65)) (n := 3) (by decide +kernel)) (by decide) (fun h => (kt h) lv hl) (fun h => (kf h) lv hl))
theorem w_X8_findSpotsLentOn_41 {Q : qQ} {I : qMI} {L : qML} {R : qMR} {a1 : Int32} {a2 : Int32} {a3 : Int32} {P : Int32 → qMI → qML → qMR → Prop} (hc : wkCi l G d n_X8_loanOf [.int a2, .int a3] I L R P) (kk : ∀ y I' L' R', P y I' L' R' → wkB l G (d + 1) n_X8_findSpotsLentOn Q 46 [.ref 0, .int a1, .int a2, .int a3, wkU] [.int y] I' L' R') : wkB l G (d + 1) n_X8_findSpotsLentOn Q 41 [.ref 0, .int a1, .int a2, .int a3, wkU] [] I L R :=
  bb_iload_n (n := 2) (i := 2) (zd (i := .iload_n 2) (n := 1) (by decide +kernel)) rfl rfl <|
  bb_iload_n (n := 3) (i := 3) (zd (i := .iload_n 3) (n := 1) (by decide +kernel)) rfl rfl <|
  bb_callS (idx := 166) (N := n_X8_loanOf) (As := [.int a2, .int a3]) (st := []) (zd (i := .invokestatic 166) (n := 3) (by decide +kernel)) to_X8_loanOf g764 g765 (Nat.le_of_ble_eq_true rfl) rfl rfl hc (fun r I' L' R' hq => by obtain ⟨y, rfl, hp⟩ := hq; exact kk y I' L' R' hp)
theorem w_X8_findSpotsLentOn_46 {Q : qQ} {I : qMI} {L : qML} {R : qMR} {a1 : Int32} {a2 : Int32} {a3 : Int32} {s0 : Int32} (h1 : R 0 9 = some 256) (h2 : R 0 2 = some 21) (h3 : R 21 5 = some 26) (h4 : vp_in s0 36) (kt : ¬ (I 26 s0.toNatClampNeg) = 0 → wkB l G (d + 1) n_X8_findSpotsLentOn Q 71 [.ref 0, .int a1, .int a2, .int a3, .int s0] [.int s0, .ref 256] I L R) (kf : (I 26 s0.toNatClampNeg) = 0 → wkB l G (d + 1) n_X8_findSpotsLentOn Q 67 [.ref 0, .int a1, .int a2, .int a3, .int s0] [.int s0, .ref 256] I L R) : wkB l G (d + 1) n_X8_findSpotsLentOn Q 46 [.ref 0, .int a1, .int a2, .int a3, wkU] [.int s0] I L R :=
  bb_istore (i := 4) (zd (i := .istore 4) (n := 2) (by decide +kernel)) (by decide +kernel) (wkNl_i rfl) <|
  bb_aload_n (n := 0) (i := 0) (zd (i := .aload_n 0) (n := 1) (by decide +kernel)) rfl rfl <|
  bb_getr (k := 0) (ci := 8) (j := 9) (idx := 59) (a := 256) (zd (i := .getfield 59) (n := 3) (by decide +kernel)) (by decide +kernel) (by decide +kernel) (by decide +kernel) (by decide +kernel) rfl g461 h1 <|
  bb_iload (i := 4) (zd (i := .iload 4) (n := 2) (by decide +kernel)) rfl <|
  bb_aload_n (n := 0) (i := 0) (zd (i := .aload_n 0) (n := 1) (by decide +kernel)) rfl rfl <|
  bb_getr (k := 0) (ci := 8) (j := 2) (idx := 26) (a := 21) (zd (i := .getfield 26) (n := 3) (by decide +kernel)) (by decide +kernel) (by decide +kernel) (by decide +kernel) (by decide +kernel) rfl g454 h2 <|
  bb_getr (k := 21) (ci := 4) (j := 5) (idx := 169) (a := 26) (zd (i := .getfield 169) (n := 3) (by decide +kernel)) (by decide +kernel) (by decide +kernel) (by decide +kernel) (by decide +kernel) rfl g383 h3 <|
  bb_iload (i := 4) (zd (i := .iload 4) (n := 2) (by decide +kernel)) rfl <|
  bb_lift (fun _ => q_iald (k := 26) (zd (i := .iaload) (n := 1) (by decide +kernel)) (by decide +kernel) (by decide +kernel) h4) <|
  (fun lv hl => q_if_ne (off := 7) (tgt := 71) (zd (i := .ifCond .ne (7)) (n := 3) (by decide +kernel)) (by decide) (fun h => (kt h) lv hl) (fun h => (kf h) lv hl))
theorem w_X8_findSpotsLentOn_67 {Q : qQ} {I : qMI} {L : qML} {R : qMR} {a1 : Int32} {a2 : Int32} {a3 : Int32} {a4 : Int32} {s1 : Int32} (k : wkB l G (d + 1) n_X8_findSpotsLentOn Q 96 [.ref 0, .int a1, .int a2, .int a3, .int a4] [.int (-1), .int s1, .ref 256] I L R) : wkB l G (d + 1) n_X8_findSpotsLentOn Q 67 [.ref 0, .int a1, .int a2, .int a3, .int a4] [.int s1, .ref 256] I L R :=
  bb_lift (fun _ => q_iconst (n := -1) (zd (i := .iconst (-1)) (n := 1) (by decide +kernel)) rfl) <|
  bb_lift (fun _ => q_goto (off := 28) (tgt := 96) (zd (i := .goto (28)) (n := 3) (by decide +kernel)) (by decide)) k
theorem w_X8_findSpotsLentOn_71 {Q : qQ} {I : qMI} {L : qML} {R : qMR} {o : Nat} (ho : o = 9 ∨ o = 259) {a1 : Int32} {a2 : Int32} {a3 : Int32} {a4 : Int32} {s1 : Int32} (h1 : R 0 12 = some o) (h2 : R 0 2 = some 21) (h3 : R 21 1 = some 22) (h4 : vp_in a2 6) (h5 : R 0 2 = some 21) {P : Int32 → qMI → qML → qMR → Prop} (hc : wkCi l G d n_X0_spotFrom [.ref o, .int (I 22 a2.toNatClampNeg), .int a3, .int (I 21 0), .int a1] I L R P) (kk : ∀ y I' L' R', P y I' L' R' → wkB l G (d + 1) n_X8_findSpotsLentOn Q 96 [.ref 0, .int a1, .int a2, .int a3, .int a4] [.int y, .int s1, .ref 256] I' L' R') : wkB l G (d + 1) n_X8_findSpotsLentOn Q 71 [.ref 0, .int a1, .int a2, .int a3, .int a4] [.int s1, .ref 256] I L R :=
  bb_aload_n (n := 0) (i := 0) (zd (i := .aload_n 0) (n := 1) (by decide +kernel)) rfl rfl <|
  bb_getr (k := 0) (ci := 8) (j := 12) (idx := 71) (a := o) (zd (i := .getfield 71) (n := 3) (by decide +kernel)) (by decide +kernel) (by decide +kernel) (by decide +kernel) (by decide +kernel) rfl g464 h1 <|
  bb_aload_n (n := 0) (i := 0) (zd (i := .aload_n 0) (n := 1) (by decide +kernel)) rfl rfl <|
  bb_getr (k := 0) (ci := 8) (j := 2) (idx := 26) (a := 21) (zd (i := .getfield 26) (n := 3) (by decide +kernel)) (by decide +kernel) (by decide +kernel) (by decide +kernel) (by decide +kernel) rfl g454 h2 <|
  bb_getr (k := 21) (ci := 4) (j := 1) (idx := 134) (a := 22) (zd (i := .getfield 134) (n := 3) (by decide +kernel)) (by decide +kernel) (by decide +kernel) (by decide +kernel) (by decide +kernel) rfl g371 h3 <|
  bb_iload_n (n := 2) (i := 2) (zd (i := .iload_n 2) (n := 1) (by decide +kernel)) rfl rfl <|
  bb_lift (fun _ => q_iald (k := 22) (zd (i := .iaload) (n := 1) (by decide +kernel)) (by decide +kernel) (by decide +kernel) h4) <|
  bb_iload_n (n := 3) (i := 3) (zd (i := .iload_n 3) (n := 1) (by decide +kernel)) rfl rfl <|
  bb_aload_n (n := 0) (i := 0) (zd (i := .aload_n 0) (n := 1) (by decide +kernel)) rfl rfl <|
  bb_getr (k := 0) (ci := 8) (j := 2) (idx := 26) (a := 21) (zd (i := .getfield 26) (n := 3) (by decide +kernel)) (by decide +kernel) (by decide +kernel) (by decide +kernel) (by decide +kernel) rfl g454 h5 <|
  bb_geti (k := 21) (ci := 4) (j := 0) (idx := 140) (zd (i := .getfield 140) (n := 3) (by decide +kernel)) (by decide +kernel) (by decide +kernel) (by decide +kernel) (by decide +kernel) rfl g368 <|
  bb_iload_n (n := 1) (i := 1) (zd (i := .iload_n 1) (n := 1) (by decide +kernel)) rfl rfl <|
  bb_callV (idx := 224) (k := o) (ci := 0) (N := n_X0_spotFrom) (As := [.int (I 22 a2.toNatClampNeg), .int a3, .int (I 21 0), .int a1]) (st := [.int s1, .ref 256]) (zd (i := .invokevirtual 224) (n := 3) (by decide +kernel)) to_X0_spotFrom g901 g902 g903 (Nat.le_of_ble_eq_true rfl) (by rcases ho with rfl | rfl <;> decide +kernel) (by rcases ho with rfl | rfl <;> decide +kernel) (by decide +kernel) rfl rfl rfl hc (fun r I' L' R' hq => by obtain ⟨y, rfl, hp⟩ := hq; exact kk y I' L' R' hp)
theorem w_X8_findSpotsLentOn_96 {Q : qQ} {I : qMI} {L : qML} {R : qMR} {a1 : Int32} {a2 : Int32} {a3 : Int32} {a4 : Int32} {s1 : Int32} {s2 : Int32} (h1 : vp_in s1 36) (k : wkB l G (d + 1) n_X8_findSpotsLentOn Q 30 [.ref 0, .int a1, .int a2, .int (a3 + 1), wkU] [] (qUp I 256 s1.toNatClampNeg s2) L R) : wkB l G (d + 1) n_X8_findSpotsLentOn Q 96 [.ref 0, .int a1, .int a2, .int a3, .int a4] [.int s2, .int s1, .ref 256] I L R :=
  bb_lift (fun _ => q_iast (k := 256) (zd (i := .iastore) (n := 1) (by decide +kernel)) (by decide +kernel) (by decide +kernel) h1) <|
  bb_iinc (i := 3) (n := 1) (zd (i := .iinc 3 (1)) (n := 3) (by decide +kernel)) rfl rfl (by decide +kernel) (wkNl_i rfl) <|
  bb_lift (fun _ => q_goto (off := -70) (tgt := 30) (zd (i := .goto (-70)) (n := 3) (by decide +kernel)) (by decide)) (wkB_le (vs := [.ref 0, .int a1, .int a2, .int (a3 + 1), wkU]) (ws := [.ref 0, .int a1, .int a2, .int (a3 + 1), .int a4]) ⟨Or.inr rfl, Or.inr rfl, Or.inr rfl, Or.inr rfl, Or.inl rfl, trivial⟩ (k))
theorem w_X8_findSpotsLentOn_103 {Q : qQ} {I : qMI} {L : qML} {R : qMR} {a1 : Int32} {a2 : Int32} {a3 : Int32} (k : wkB l G (d + 1) n_X8_findSpotsLentOn Q 17 [.ref 0, .int a1, .int (a2 + 1), wkU, wkU] [] I L R) : wkB l G (d + 1) n_X8_findSpotsLentOn Q 103 [.ref 0, .int a1, .int a2, .int a3, wkU] [] I L R :=
  bb_iinc (i := 2) (n := 1) (zd (i := .iinc 2 (1)) (n := 3) (by decide +kernel)) rfl rfl (by decide +kernel) (wkNl_i rfl) <|
  bb_lift (fun _ => q_goto (off := -89) (tgt := 17) (zd (i := .goto (-89)) (n := 3) (by decide +kernel)) (by decide)) (wkB_le (vs := [.ref 0, .int a1, .int (a2 + 1), wkU, wkU]) (ws := [.ref 0, .int a1, .int (a2 + 1), .int a3, wkU]) ⟨Or.inr rfl, Or.inr rfl, Or.inr rfl, Or.inl rfl, Or.inr rfl, trivial⟩ (k))
theorem w_X8_findSpotsLentOn_109 {Q : qQ} {I : qMI} {L : qML} {R : qMR} {a1 : Int32} {a2 : Int32} (hQ : Q none 336 I L R) : wkB l G (d + 1) n_X8_findSpotsLentOn Q 109 [.ref 0, .int a1, .int a2, wkU, wkU] [] I L R :=
  (fun lv hl => q_vret (zd (i := .return_) (n := 1) (by decide +kernel)) rfl (Nat.le_refl _) (Nat.le_refl _) hQ)
theorem w_X8_titlesClash_0 {Q : qQ} {I : qMI} {L : qML} {R : qMR} {a1 : Int32} {a2 : Int32} (k : wkB l G (d + 1) n_X8_titlesClash Q 2 [.ref 0, .int a1, .int a2, .int 0, wkU, wkU] [] I L R) : wkB l G (d + 1) n_X8_titlesClash Q 0 [.ref 0, .int a1, .int a2, wkU, wkU, wkU] [] I L R :=
  bb_lift (fun _ => q_iconst (n := 0) (zd (i := .iconst (0)) (n := 1) (by decide +kernel)) rfl) <|
  bb_istore_n (n := 3) (i := 3) (zd (i := .istore_n 3) (n := 1) (by decide +kernel)) rfl (by decide +kernel) (wkNl_i rfl) <|
  k
theorem w_X8_titlesClash_2 {Q : qQ} {I : qMI} {L : qML} {R : qMR} {o : Nat} (ho : o = 9 ∨ o = 259) {a1 : Int32} {a2 : Int32} {a3 : Int32} (h1 : R 0 12 = some o) (kt : (I o 2) ≤ a3 → wkB l G (d + 1) n_X8_titlesClash Q 82 [.ref 0, .int a1, .int a2, .int a3, wkU, wkU] [] I L R) (kf : ¬ (I o 2) ≤ a3 → wkB l G (d + 1) n_X8_titlesClash Q 13 [.ref 0, .int a1, .int a2, .int a3, wkU, wkU] [] I L R) : wkB l G (d + 1) n_X8_titlesClash Q 2 [.ref 0, .int a1, .int a2, .int a3, wkU, wkU] [] I L R :=
  bb_iload_n (n := 3) (i := 3) (zd (i := .iload_n 3) (n := 1) (by decide +kernel)) rfl rfl <|
  bb_aload_n (n := 0) (i := 0) (zd (i := .aload_n 0) (n := 1) (by decide +kernel)) rfl rfl <|
  bb_getr (k := 0) (ci := 8) (j := 12) (idx := 71) (a := o) (zd (i := .getfield 71) (n := 3) (by decide +kernel)) (by decide +kernel) (by decide +kernel) (by decide +kernel) (by decide +kernel) rfl g464 h1 <|
  bb_geti (k := o) (ci := 0) (j := 2) (idx := 236) (zd (i := .getfield 236) (n := 3) (by decide +kernel)) (by rcases ho with rfl | rfl <;> decide +kernel) (by rcases ho with rfl | rfl <;> decide +kernel) (by decide +kernel) (by decide +kernel) rfl g280 <|
  (fun lv hl => q_icmp_ge (off := 72) (tgt := 82) (zd (i := .if_icmp .ge (72)) (n := 3) (by decide +kernel)) (by decide) (fun h => (kt h) lv hl) (fun h => (kf h) lv hl))
theorem w_X8_titlesClash_13 {Q : qQ} {I : qMI} {L : qML} {R : qMR} {a1 : Int32} {a2 : Int32} {a3 : Int32} (h1 : R 0 9 = some 256) {P : Int32 → qMI → qML → qMR → Prop} (hc : wkCi l G d n_X8_loanOf [.int a1, .int a3] I L R P) (kk : ∀ y I' L' R', P y I' L' R' → wkB l G (d + 1) n_X8_titlesClash Q 22 [.ref 0, .int a1, .int a2, .int a3, wkU, wkU] [.int y, .ref 256] I' L' R') : wkB l G (d + 1) n_X8_titlesClash Q 13 [.ref 0, .int a1, .int a2, .int a3, wkU, wkU] [] I L R :=
  bb_aload_n (n := 0) (i := 0) (zd (i := .aload_n 0) (n := 1) (by decide +kernel)) rfl rfl <|
  bb_getr (k := 0) (ci := 8) (j := 9) (idx := 59) (a := 256) (zd (i := .getfield 59) (n := 3) (by decide +kernel)) (by decide +kernel) (by decide +kernel) (by decide +kernel) (by decide +kernel) rfl g461 h1 <|
  bb_iload_n (n := 1) (i := 1) (zd (i := .iload_n 1) (n := 1) (by decide +kernel)) rfl rfl <|
  bb_iload_n (n := 3) (i := 3) (zd (i := .iload_n 3) (n := 1) (by decide +kernel)) rfl rfl <|
  bb_callS (idx := 166) (N := n_X8_loanOf) (As := [.int a1, .int a3]) (st := [.ref 256]) (zd (i := .invokestatic 166) (n := 3) (by decide +kernel)) to_X8_loanOf g764 g765 (Nat.le_of_ble_eq_true rfl) rfl rfl hc (fun r I' L' R' hq => by obtain ⟨y, rfl, hp⟩ := hq; exact kk y I' L' R' hp)
theorem w_X8_titlesClash_22 {Q : qQ} {I : qMI} {L : qML} {R : qMR} {a1 : Int32} {a2 : Int32} {a3 : Int32} {s1 : Int32} (h1 : vp_in s1 36) (k : wkB l G (d + 1) n_X8_titlesClash Q 28 [.ref 0, .int a1, .int a2, .int a3, .int (I 256 s1.toNatClampNeg), .int 0] [] I L R) : wkB l G (d + 1) n_X8_titlesClash Q 22 [.ref 0, .int a1, .int a2, .int a3, wkU, wkU] [.int s1, .ref 256] I L R :=
  bb_lift (fun _ => q_iald (k := 256) (zd (i := .iaload) (n := 1) (by decide +kernel)) (by decide +kernel) (by decide +kernel) h1) <|
  bb_istore (i := 4) (zd (i := .istore 4) (n := 2) (by decide +kernel)) (by decide +kernel) (wkNl_i rfl) <|
  bb_lift (fun _ => q_iconst (n := 0) (zd (i := .iconst (0)) (n := 1) (by decide +kernel)) rfl) <|
  bb_istore (i := 5) (zd (i := .istore 5) (n := 2) (by decide +kernel)) (by decide +kernel) (wkNl_i rfl) <|
  k
theorem w_X8_titlesClash_28 {Q : qQ} {I : qMI} {L : qML} {R : qMR} {o : Nat} (ho : o = 9 ∨ o = 259) {a1 : Int32} {a2 : Int32} {a3 : Int32} {a4 : Int32} {a5 : Int32} (h1 : R 0 12 = some o) (kt : (I o 2) ≤ a5 → wkB l G (d + 1) n_X8_titlesClash Q 76 [.ref 0, .int a1, .int a2, .int a3, .int a4, .int a5] [] I L R) (kf : ¬ (I o 2) ≤ a5 → wkB l G (d + 1) n_X8_titlesClash Q 40 [.ref 0, .int a1, .int a2, .int a3, .int a4, .int a5] [] I L R) : wkB l G (d + 1) n_X8_titlesClash Q 28 [.ref 0, .int a1, .int a2, .int a3, .int a4, .int a5] [] I L R :=
  bb_iload (i := 5) (zd (i := .iload 5) (n := 2) (by decide +kernel)) rfl <|
  bb_aload_n (n := 0) (i := 0) (zd (i := .aload_n 0) (n := 1) (by decide +kernel)) rfl rfl <|
  bb_getr (k := 0) (ci := 8) (j := 12) (idx := 71) (a := o) (zd (i := .getfield 71) (n := 3) (by decide +kernel)) (by decide +kernel) (by decide +kernel) (by decide +kernel) (by decide +kernel) rfl g464 h1 <|
  bb_geti (k := o) (ci := 0) (j := 2) (idx := 236) (zd (i := .getfield 236) (n := 3) (by decide +kernel)) (by rcases ho with rfl | rfl <;> decide +kernel) (by rcases ho with rfl | rfl <;> decide +kernel) (by decide +kernel) (by decide +kernel) rfl g280 <|
  (fun lv hl => q_icmp_ge (off := 39) (tgt := 76) (zd (i := .if_icmp .ge (39)) (n := 3) (by decide +kernel)) (by decide) (fun h => (kt h) lv hl) (fun h => (kf h) lv hl))
theorem w_X8_titlesClash_40 {Q : qQ} {I : qMI} {L : qML} {R : qMR} {a1 : Int32} {a2 : Int32} {a3 : Int32} {a4 : Int32} {a5 : Int32} (kt : a4 = (-1) → wkB l G (d + 1) n_X8_titlesClash Q 76 [.ref 0, .int a1, .int a2, .int a3, .int a4, .int a5] [] I L R) (kf : ¬ a4 = (-1) → wkB l G (d + 1) n_X8_titlesClash Q 46 [.ref 0, .int a1, .int a2, .int a3, .int a4, .int a5] [] I L R) : wkB l G (d + 1) n_X8_titlesClash Q 40 [.ref 0, .int a1, .int a2, .int a3, .int a4, .int a5] [] I L R :=
  bb_iload (i := 4) (zd (i := .iload 4) (n := 2) (by decide +kernel)) rfl <|
  bb_lift (fun _ => q_iconst (n := -1) (zd (i := .iconst (-1)) (n := 1) (by decide +kernel)) rfl) <|
  (fun lv hl => q_icmp_eq (off := 33) (tgt := 76) (zd (i := .if_icmp .eq (33)) (n := 3) (by decide +kernel)) (by decide) (fun h => (kt h) lv hl) (fun h => (kf h) lv hl))
theorem w_X8_titlesClash_46 {Q : qQ} {I : qMI} {L : qML} {R : qMR} {a1 : Int32} {a2 : Int32} {a3 : Int32} {a4 : Int32} {a5 : Int32} (kt : a5 = a3 → wkB l G (d + 1) n_X8_titlesClash Q 70 [.ref 0, .int a1, .int a2, .int a3, .int a4, .int a5] [] I L R) (kf : ¬ a5 = a3 → wkB l G (d + 1) n_X8_titlesClash Q 52 [.ref 0, .int a1, .int a2, .int a3, .int a4, .int a5] [] I L R) : wkB l G (d + 1) n_X8_titlesClash Q 46 [.ref 0, .int a1, .int a2, .int a3, .int a4, .int a5] [] I L R :=
  bb_iload (i := 5) (zd (i := .iload 5) (n := 2) (by decide +kernel)) rfl <|
  bb_iload_n (n := 3) (i := 3) (zd (i := .iload_n 3) (n := 1) (by decide +kernel)) rfl rfl <|
  (fun lv hl => q_icmp_eq (off := 21) (tgt := 70) (zd (i := .if_icmp .eq (21)) (n := 3) (by decide +kernel)) (by decide) (fun h => (kt h) lv hl) (fun h => (kf h) lv hl))
theorem w_X8_titlesClash_52 {Q : qQ} {I : qMI} {L : qML} {R : qMR} {a1 : Int32} {a2 : Int32} {a3 : Int32} {a4 : Int32} {a5 : Int32} (h1 : R 0 9 = some 256) {P : Int32 → qMI → qML → qMR → Prop} (hc : wkCi l G d n_X8_loanOf [.int a2, .int a5] I L R P) (kk : ∀ y I' L' R', P y I' L' R' → wkB l G (d + 1) n_X8_titlesClash Q 62 [.ref 0, .int a1, .int a2, .int a3, .int a4, .int a5] [.int y, .ref 256] I' L' R') : wkB l G (d + 1) n_X8_titlesClash Q 52 [.ref 0, .int a1, .int a2, .int a3, .int a4, .int a5] [] I L R :=
  bb_aload_n (n := 0) (i := 0) (zd (i := .aload_n 0) (n := 1) (by decide +kernel)) rfl rfl <|
  bb_getr (k := 0) (ci := 8) (j := 9) (idx := 59) (a := 256) (zd (i := .getfield 59) (n := 3) (by decide +kernel)) (by decide +kernel) (by decide +kernel) (by decide +kernel) (by decide +kernel) rfl g461 h1 <|
  bb_iload_n (n := 2) (i := 2) (zd (i := .iload_n 2) (n := 1) (by decide +kernel)) rfl rfl <|
  bb_iload (i := 5) (zd (i := .iload 5) (n := 2) (by decide +kernel)) rfl <|
  bb_callS (idx := 166) (N := n_X8_loanOf) (As := [.int a2, .int a5]) (st := [.ref 256]) (zd (i := .invokestatic 166) (n := 3) (by decide +kernel)) to_X8_loanOf g764 g765 (Nat.le_of_ble_eq_true rfl) rfl rfl hc (fun r I' L' R' hq => by obtain ⟨y, rfl, hp⟩ := hq; exact kk y I' L' R' hp)
theorem w_X8_titlesClash_62 {Q : qQ} {I : qMI} {L : qML} {R : qMR} {a1 : Int32} {a2 : Int32} {a3 : Int32} {a4 : Int32} {a5 : Int32} {s1 : Int32} (h1 : vp_in s1 36) (kt : ¬ (I 256 s1.toNatClampNeg) = a4 → wkB l G (d + 1) n_X8_titlesClash Q 70 [.ref 0, .int a1, .int a2, .int a3, .int a4, .int a5] [] I L R) (kf : (I 256 s1.toNatClampNeg) = a4 → wkB l G (d + 1) n_X8_titlesClash Q 68 [.ref 0, .int a1, .int a2, .int a3, .int a4, .int a5] [] I L R) : wkB l G (d + 1) n_X8_titlesClash Q 62 [.ref 0, .int a1, .int a2, .int a3, .int a4, .int a5] [.int s1, .ref 256] I L R :=
  bb_lift (fun _ => q_iald (k := 256) (zd (i := .iaload) (n := 1) (by decide +kernel)) (by decide +kernel) (by decide +kernel) h1) <|
  bb_iload (i := 4) (zd (i := .iload 4) (n := 2) (by decide +kernel)) rfl <|
  (fun lv hl => q_icmp_ne (off := 5) (tgt := 70) (zd (i := .if_icmp .ne (5)) (n := 3) (by decide +kernel)) (by decide) (fun h => (kt h) lv hl) (fun h => (kf h) lv hl))
theorem w_X8_titlesClash_68 {Q : qQ} {I : qMI} {L : qML} {R : qMR} {a1 : Int32} {a2 : Int32} {a3 : Int32} {a4 : Int32} {a5 : Int32} (hQ : Q (some (.int 1)) 336 I L R) : wkB l G (d + 1) n_X8_titlesClash Q 68 [.ref 0, .int a1, .int a2, .int a3, .int a4, .int a5] [] I L R :=
  bb_lift (fun _ => q_iconst (n := 1) (zd (i := .iconst (1)) (n := 1) (by decide +kernel)) rfl) <|
  (fun lv hl => q_iret (zd (i := .ireturn) (n := 1) (by decide +kernel)) rfl rfl (Nat.le_refl _) (Nat.le_refl _) hQ)
theorem w_X8_titlesClash_70 {Q : qQ} {I : qMI} {L : qML} {R : qMR} {a1 : Int32} {a2 : Int32} {a3 : Int32} {a4 : Int32} {a5 : Int32} (k : wkB l G (d + 1) n_X8_titlesClash Q 28 [.ref 0, .int a1, .int a2, .int a3, .int a4, .int (a5 + 1)] [] I L R) : wkB l G (d + 1) n_X8_titlesClash Q 70 [.ref 0, .int a1, .int a2, .int a3, .int a4, .int a5] [] I L R :=
  bb_iinc (i := 5) (n := 1) (zd (i := .iinc 5 (1)) (n := 3) (by decide +kernel)) rfl rfl (by decide +kernel) (wkNl_i rfl) <|
  bb_lift (fun _ => q_goto (off := -45) (tgt := 28) (zd (i := .goto (-45)) (n := 3) (by decide +kernel)) (by decide)) k
theorem w_X8_titlesClash_76 {Q : qQ} {I : qMI} {L : qML} {R : qMR} {a1 : Int32} {a2 : Int32} {a3 : Int32} {a4 : Int32} {a5 : Int32} (k : wkB l G (d + 1) n_X8_titlesClash Q 2 [.ref 0, .int a1, .int a2, .int (a3 + 1), wkU, wkU] [] I L R) : wkB l G (d + 1) n_X8_titlesClash Q 76 [.ref 0, .int a1, .int a2, .int a3, .int a4, .int a5] [] I L R :=
  bb_iinc (i := 3) (n := 1) (zd (i := .iinc 3 (1)) (n := 3) (by decide +kernel)) rfl rfl (by decide +kernel) (wkNl_i rfl) <|
  bb_lift (fun _ => q_goto (off := -77) (tgt := 2) (zd (i := .goto (-77)) (n := 3) (by decide +kernel)) (by decide)) (wkB_le (vs := [.ref 0, .int a1, .int a2, .int (a3 + 1), wkU, wkU]) (ws := [.ref 0, .int a1, .int a2, .int (a3 + 1), .int a4, .int a5]) ⟨Or.inr rfl, Or.inr rfl, Or.inr rfl, Or.inr rfl, Or.inl rfl, Or.inl rfl, trivial⟩ (k))
theorem w_X8_titlesClash_82 {Q : qQ} {I : qMI} {L : qML} {R : qMR} {a1 : Int32} {a2 : Int32} {a3 : Int32} (hQ : Q (some (.int 0)) 336 I L R) : wkB l G (d + 1) n_X8_titlesClash Q 82 [.ref 0, .int a1, .int a2, .int a3, wkU, wkU] [] I L R :=
  bb_lift (fun _ => q_iconst (n := 0) (zd (i := .iconst (0)) (n := 1) (by decide +kernel)) rfl) <|
  (fun lv hl => q_iret (zd (i := .ireturn) (n := 1) (by decide +kernel)) rfl rfl (Nat.le_refl _) (Nat.le_refl _) hQ)
theorem w_X8_hidden_0 {Q : qQ} {I : qMI} {L : qML} {R : qMR} {a1 : Int32} {a2 : Int32} {a3 : Int32} {P : Int32 → qMI → qML → qMR → Prop} (hc : wkCi l G d n_X8_isX [.int a1] I L R P) (kk : ∀ y I' L' R', P y I' L' R' → wkB l G (d + 1) n_X8_hidden Q 4 [.ref 0, .int a1, .int a2, .int a3, wkU, wkU, wkU] [.int y] I' L' R') : wkB l G (d + 1) n_X8_hidden Q 0 [.ref 0, .int a1, .int a2, .int a3, wkU, wkU, wkU] [] I L R :=
  bb_iload_n (n := 1) (i := 1) (zd (i := .iload_n 1) (n := 1) (by decide +kernel)) rfl rfl <|
  bb_callS (idx := 175) (N := n_X8_isX) (As := [.int a1]) (st := []) (zd (i := .invokestatic 175) (n := 3) (by decide +kernel)) to_X8_isX g805 g806 (Nat.le_of_ble_eq_true rfl) rfl rfl hc (fun r I' L' R' hq => by obtain ⟨y, rfl, hp⟩ := hq; exact kk y I' L' R' hp)
theorem w_X8_hidden_4 {Q : qQ} {I : qMI} {L : qML} {R : qMR} {a1 : Int32} {a2 : Int32} {a3 : Int32} {s0 : Int32} (kt : s0 = 0 → wkB l G (d + 1) n_X8_hidden Q 25 [.ref 0, .int a1, .int a2, .int a3, wkU, wkU, wkU] [] I L R) (kf : ¬ s0 = 0 → wkB l G (d + 1) n_X8_hidden Q 7 [.ref 0, .int a1, .int a2, .int a3, wkU, wkU, wkU] [] I L R) : wkB l G (d + 1) n_X8_hidden Q 4 [.ref 0, .int a1, .int a2, .int a3, wkU, wkU, wkU] [.int s0] I L R :=
  (fun lv hl => q_if_eq (off := 21) (tgt := 25) (zd (i := .ifCond .eq (21)) (n := 3) (by decide +kernel)) (by decide) (fun h => (kt h) lv hl) (fun h => (kf h) lv hl))
theorem w_X8_hidden_7 {Q : qQ} {I : qMI} {L : qML} {R : qMR} {a1 : Int32} {a2 : Int32} {a3 : Int32} {P : Int32 → qMI → qML → qMR → Prop} (hc : wkCi l G d n_X8_isX [.int a2] I L R P) (kk : ∀ y I' L' R', P y I' L' R' → wkB l G (d + 1) n_X8_hidden Q 11 [.ref 0, .int a1, .int a2, .int a3, wkU, wkU, wkU] [.int y] I' L' R') : wkB l G (d + 1) n_X8_hidden Q 7 [.ref 0, .int a1, .int a2, .int a3, wkU, wkU, wkU] [] I L R :=
  bb_iload_n (n := 2) (i := 2) (zd (i := .iload_n 2) (n := 1) (by decide +kernel)) rfl rfl <|
  bb_callS (idx := 175) (N := n_X8_isX) (As := [.int a2]) (st := []) (zd (i := .invokestatic 175) (n := 3) (by decide +kernel)) to_X8_isX g805 g806 (Nat.le_of_ble_eq_true rfl) rfl rfl hc (fun r I' L' R' hq => by obtain ⟨y, rfl, hp⟩ := hq; exact kk y I' L' R' hp)
theorem w_X8_hidden_11 {Q : qQ} {I : qMI} {L : qML} {R : qMR} {a1 : Int32} {a2 : Int32} {a3 : Int32} {s0 : Int32} (kt : s0 = 0 → wkB l G (d + 1) n_X8_hidden Q 25 [.ref 0, .int a1, .int a2, .int a3, wkU, wkU, wkU] [] I L R) (kf : ¬ s0 = 0 → wkB l G (d + 1) n_X8_hidden Q 14 [.ref 0, .int a1, .int a2, .int a3, wkU, wkU, wkU] [] I L R) : wkB l G (d + 1) n_X8_hidden Q 11 [.ref 0, .int a1, .int a2, .int a3, wkU, wkU, wkU] [.int s0] I L R :=
  (fun lv hl => q_if_eq (off := 14) (tgt := 25) (zd (i := .ifCond .eq (14)) (n := 3) (by decide +kernel)) (by decide) (fun h => (kt h) lv hl) (fun h => (kf h) lv hl))
theorem w_X8_hidden_14 {Q : qQ} {I : qMI} {L : qML} {R : qMR} {a1 : Int32} {a2 : Int32} {a3 : Int32} (kt : a3 < 1 → wkB l G (d + 1) n_X8_hidden Q 25 [.ref 0, .int a1, .int a2, .int a3, wkU, wkU, wkU] [] I L R) (kf : ¬ a3 < 1 → wkB l G (d + 1) n_X8_hidden Q 19 [.ref 0, .int a1, .int a2, .int a3, wkU, wkU, wkU] [] I L R) : wkB l G (d + 1) n_X8_hidden Q 14 [.ref 0, .int a1, .int a2, .int a3, wkU, wkU, wkU] [] I L R :=
  bb_iload_n (n := 3) (i := 3) (zd (i := .iload_n 3) (n := 1) (by decide +kernel)) rfl rfl <|
  bb_lift (fun _ => q_iconst (n := 1) (zd (i := .iconst (1)) (n := 1) (by decide +kernel)) rfl) <|
  (fun lv hl => q_icmp_lt (off := 9) (tgt := 25) (zd (i := .if_icmp .lt (9)) (n := 3) (by decide +kernel)) (by decide) (fun h => (kt h) lv hl) (fun h => (kf h) lv hl))
theorem w_X8_hidden_19 {Q : qQ} {I : qMI} {L : qML} {R : qMR} {a1 : Int32} {a2 : Int32} {a3 : Int32} (kt : a3 ≤ 9 → wkB l G (d + 1) n_X8_hidden Q 27 [.ref 0, .int a1, .int a2, .int a3, wkU, wkU, wkU] [] I L R) (kf : ¬ a3 ≤ 9 → wkB l G (d + 1) n_X8_hidden Q 25 [.ref 0, .int a1, .int a2, .int a3, wkU, wkU, wkU] [] I L R) : wkB l G (d + 1) n_X8_hidden Q 19 [.ref 0, .int a1, .int a2, .int a3, wkU, wkU, wkU] [] I L R :=
  bb_iload_n (n := 3) (i := 3) (zd (i := .iload_n 3) (n := 1) (by decide +kernel)) rfl rfl <|
  bb_lift (fun _ => q_bipush (n := 9) (zd (i := .bipush (9)) (n := 2) (by decide +kernel)) rfl) <|
  (fun lv hl => q_icmp_le (off := 5) (tgt := 27) (zd (i := .if_icmp .le (5)) (n := 3) (by decide +kernel)) (by decide) (fun h => (kt h) lv hl) (fun h => (kf h) lv hl))
theorem w_X8_hidden_25 {Q : qQ} {I : qMI} {L : qML} {R : qMR} {a1 : Int32} {a2 : Int32} {a3 : Int32} (hQ : Q (some (.int (-1))) 336 I L R) : wkB l G (d + 1) n_X8_hidden Q 25 [.ref 0, .int a1, .int a2, .int a3, wkU, wkU, wkU] [] I L R :=
  bb_lift (fun _ => q_iconst (n := -1) (zd (i := .iconst (-1)) (n := 1) (by decide +kernel)) rfl) <|
  (fun lv hl => q_iret (zd (i := .ireturn) (n := 1) (by decide +kernel)) rfl rfl (Nat.le_refl _) (Nat.le_refl _) hQ)
theorem w_X8_hidden_27 {Q : qQ} {I : qMI} {L : qML} {R : qMR} {a1 : Int32} {a2 : Int32} {a3 : Int32} (h1 : R 0 2 = some 21) {P : Int32 → qMI → qML → qMR → Prop} (hc : wkCi l G d n_X8_unseenOf [.ref 0, .int (1 <<< (a1 &&& 31)), .int a3, .int (I 21 0)] I L R P) (kk : ∀ y I' L' R', P y I' L' R' → wkB l G (d + 1) n_X8_hidden Q 42 [.ref 0, .int a1, .int a2, .int a3, wkU, wkU, wkU] [.int y] I' L' R') : wkB l G (d + 1) n_X8_hidden Q 27 [.ref 0, .int a1, .int a2, .int a3, wkU, wkU, wkU] [] I L R :=
  bb_aload_n (n := 0) (i := 0) (zd (i := .aload_n 0) (n := 1) (by decide +kernel)) rfl rfl <|
  bb_lift (fun _ => q_iconst (n := 1) (zd (i := .iconst (1)) (n := 1) (by decide +kernel)) rfl) <|
  bb_iload_n (n := 1) (i := 1) (zd (i := .iload_n 1) (n := 1) (by decide +kernel)) rfl rfl <|
  bb_lift (fun _ => q_ishl (zd (i := .ishl) (n := 1) (by decide +kernel))) <|
  bb_iload_n (n := 3) (i := 3) (zd (i := .iload_n 3) (n := 1) (by decide +kernel)) rfl rfl <|
  bb_aload_n (n := 0) (i := 0) (zd (i := .aload_n 0) (n := 1) (by decide +kernel)) rfl rfl <|
  bb_getr (k := 0) (ci := 8) (j := 2) (idx := 26) (a := 21) (zd (i := .getfield 26) (n := 3) (by decide +kernel)) (by decide +kernel) (by decide +kernel) (by decide +kernel) (by decide +kernel) rfl g454 h1 <|
  bb_geti (k := 21) (ci := 4) (j := 0) (idx := 140) (zd (i := .getfield 140) (n := 3) (by decide +kernel)) (by decide +kernel) (by decide +kernel) (by decide +kernel) (by decide +kernel) rfl g368 <|
  bb_callV (idx := 282) (k := 0) (ci := 8) (N := n_X8_unseenOf) (As := [.int (1 <<< (a1 &&& 31)), .int a3, .int (I 21 0)]) (st := []) (zd (i := .invokevirtual 282) (n := 3) (by decide +kernel)) to_X8_unseenOf g995 g997 g35 (Nat.le_of_ble_eq_true rfl) (by decide +kernel) (by decide +kernel) (by decide +kernel) rfl rfl rfl hc (fun r I' L' R' hq => by obtain ⟨y, rfl, hp⟩ := hq; exact kk y I' L' R' hp)
theorem w_X8_hidden_42 {Q : qQ} {I : qMI} {L : qML} {R : qMR} {a1 : Int32} {a2 : Int32} {a3 : Int32} {s0 : Int32} (k : wkB l G (d + 1) n_X8_hidden Q 47 [.ref 0, .int a1, .int a2, .int a3, .int s0, .int 0, wkU] [] I L R) : wkB l G (d + 1) n_X8_hidden Q 42 [.ref 0, .int a1, .int a2, .int a3, wkU, wkU, wkU] [.int s0] I L R :=
  bb_istore (i := 4) (zd (i := .istore 4) (n := 2) (by decide +kernel)) (by decide +kernel) (wkNl_i rfl) <|
  bb_lift (fun _ => q_iconst (n := 0) (zd (i := .iconst (0)) (n := 1) (by decide +kernel)) rfl) <|
  bb_istore (i := 5) (zd (i := .istore 5) (n := 2) (by decide +kernel)) (by decide +kernel) (wkNl_i rfl) <|
  k
theorem w_X8_hidden_47 {Q : qQ} {I : qMI} {L : qML} {R : qMR} {a1 : Int32} {a2 : Int32} {a3 : Int32} {a4 : Int32} {a5 : Int32} (kt : 48 < a5 → wkB l G (d + 1) n_X8_hidden Q 111 [.ref 0, .int a1, .int a2, .int a3, .int a4, .int a5, wkU] [] I L R) (kf : ¬ 48 < a5 → wkB l G (d + 1) n_X8_hidden Q 54 [.ref 0, .int a1, .int a2, .int a3, .int a4, .int a5, wkU] [] I L R) : wkB l G (d + 1) n_X8_hidden Q 47 [.ref 0, .int a1, .int a2, .int a3, .int a4, .int a5, wkU] [] I L R :=
  bb_iload (i := 5) (zd (i := .iload 5) (n := 2) (by decide +kernel)) rfl <|
  bb_lift (fun _ => q_bipush (n := 48) (zd (i := .bipush (48)) (n := 2) (by decide +kernel)) rfl) <|
  (fun lv hl => q_icmp_gt (off := 60) (tgt := 111) (zd (i := .if_icmp .gt (60)) (n := 3) (by decide +kernel)) (by decide) (fun h => (kt h) lv hl) (fun h => (kf h) lv hl))
theorem w_X8_hidden_54 {Q : qQ} {I : qMI} {L : qML} {R : qMR} {a1 : Int32} {a2 : Int32} {a3 : Int32} {a4 : Int32} {a5 : Int32} (kt : ((a4 >>> (a2 &&& 31)) &&& 1) = 0 → wkB l G (d + 1) n_X8_hidden Q 66 [.ref 0, .int a1, .int a2, .int a3, .int a4, .int a5, wkU] [] I L R) (kf : ¬ ((a4 >>> (a2 &&& 31)) &&& 1) = 0 → wkB l G (d + 1) n_X8_hidden Q 63 [.ref 0, .int a1, .int a2, .int a3, .int a4, .int a5, wkU] [] I L R) : wkB l G (d + 1) n_X8_hidden Q 54 [.ref 0, .int a1, .int a2, .int a3, .int a4, .int a5, wkU] [] I L R :=
  bb_iload (i := 4) (zd (i := .iload 4) (n := 2) (by decide +kernel)) rfl <|
  bb_iload_n (n := 2) (i := 2) (zd (i := .iload_n 2) (n := 1) (by decide +kernel)) rfl rfl <|
  bb_lift (fun _ => q_ishr (zd (i := .ishr) (n := 1) (by decide +kernel))) <|
  bb_lift (fun _ => q_iconst (n := 1) (zd (i := .iconst (1)) (n := 1) (by decide +kernel)) rfl) <|
  bb_lift (fun _ => q_iand (zd (i := .iand) (n := 1) (by decide +kernel))) <|
  (fun lv hl => q_if_eq (off := 6) (tgt := 66) (zd (i := .ifCond .eq (6)) (n := 3) (by decide +kernel)) (by decide) (fun h => (kt h) lv hl) (fun h => (kf h) lv hl))
theorem w_X8_hidden_63 {Q : qQ} {I : qMI} {L : qML} {R : qMR} {a1 : Int32} {a2 : Int32} {a3 : Int32} {a4 : Int32} {a5 : Int32} (hQ : Q (some (.int a5)) 336 I L R) : wkB l G (d + 1) n_X8_hidden Q 63 [.ref 0, .int a1, .int a2, .int a3, .int a4, .int a5, wkU] [] I L R :=
  bb_iload (i := 5) (zd (i := .iload 5) (n := 2) (by decide +kernel)) rfl <|
  (fun lv hl => q_iret (zd (i := .ireturn) (n := 1) (by decide +kernel)) rfl rfl (Nat.le_refl _) (Nat.le_refl _) hQ)
theorem w_X8_hidden_66 {Q : qQ} {I : qMI} {L : qML} {R : qMR} {a1 : Int32} {a2 : Int32} {a3 : Int32} {a4 : Int32} {a5 : Int32} (h1 : R 0 2 = some 21) {P : Int32 → qMI → qML → qMR → Prop} (hc : wkCi l G d n_X8_unseenOf [.ref 0, .int (((a4 ||| (a4 <<< (1 &&& 31))) ||| (a4 >>> (1 &&& 31))) &&& 1048575), .int a3, .int (((I 21 0) + a5) + 1)] I L R P) (kk : ∀ y I' L' R', P y I' L' R' → wkB l G (d + 1) n_X8_hidden Q 103 [.ref 0, .int a1, .int a2, .int a3, .int a4, .int a5, .int (((a4 ||| (a4 <<< (1 &&& 31))) ||| (a4 >>> (1 &&& 31))) &&& 1048575)] [.int y] I' L' R') : wkB l G (d + 1) n_X8_hidden Q 66 [.ref 0, .int a1, .int a2, .int a3, .int a4, .int a5, wkU] [] I L R :=
  bb_iload (i := 4) (zd (i := .iload 4) (n := 2) (by decide +kernel)) rfl <|
  bb_iload (i := 4) (zd (i := .iload 4) (n := 2) (by decide +kernel)) rfl <|
  bb_lift (fun _ => q_iconst (n := 1) (zd (i := .iconst (1)) (n := 1) (by decide +kernel)) rfl) <|
  bb_lift (fun _ => q_ishl (zd (i := .ishl) (n := 1) (by decide +kernel))) <|
  bb_lift (fun _ => q_ior (zd (i := .ior) (n := 1) (by decide +kernel))) <|
  bb_iload (i := 4) (zd (i := .iload 4) (n := 2) (by decide +kernel)) rfl <|
  bb_lift (fun _ => q_iconst (n := 1) (zd (i := .iconst (1)) (n := 1) (by decide +kernel)) rfl) <|
  bb_lift (fun _ => q_ishr (zd (i := .ishr) (n := 1) (by decide +kernel))) <|
  bb_lift (fun _ => q_ior (zd (i := .ior) (n := 1) (by decide +kernel))) <|
  bb_lift (fun _ => q_ldcw (n := 285) (zd (i := .ldc_w 285) (n := 3) (by decide +kernel)) g1001) <|
  bb_lift (fun _ => q_iand (zd (i := .iand) (n := 1) (by decide +kernel))) <|
  bb_istore (i := 6) (zd (i := .istore 6) (n := 2) (by decide +kernel)) (by decide +kernel) (wkNl_i rfl) <|
  bb_aload_n (n := 0) (i := 0) (zd (i := .aload_n 0) (n := 1) (by decide +kernel)) rfl rfl <|
  bb_iload (i := 6) (zd (i := .iload 6) (n := 2) (by decide +kernel)) rfl <|
  bb_iload_n (n := 3) (i := 3) (zd (i := .iload_n 3) (n := 1) (by decide +kernel)) rfl rfl <|
  bb_aload_n (n := 0) (i := 0) (zd (i := .aload_n 0) (n := 1) (by decide +kernel)) rfl rfl <|
  bb_getr (k := 0) (ci := 8) (j := 2) (idx := 26) (a := 21) (zd (i := .getfield 26) (n := 3) (by decide +kernel)) (by decide +kernel) (by decide +kernel) (by decide +kernel) (by decide +kernel) rfl g454 h1 <|
  bb_geti (k := 21) (ci := 4) (j := 0) (idx := 140) (zd (i := .getfield 140) (n := 3) (by decide +kernel)) (by decide +kernel) (by decide +kernel) (by decide +kernel) (by decide +kernel) rfl g368 <|
  bb_iload (i := 5) (zd (i := .iload 5) (n := 2) (by decide +kernel)) rfl <|
  bb_lift (fun _ => q_iadd (zd (i := .iadd) (n := 1) (by decide +kernel))) <|
  bb_lift (fun _ => q_iconst (n := 1) (zd (i := .iconst (1)) (n := 1) (by decide +kernel)) rfl) <|
  bb_lift (fun _ => q_iadd (zd (i := .iadd) (n := 1) (by decide +kernel))) <|
  bb_callV (idx := 282) (k := 0) (ci := 8) (N := n_X8_unseenOf) (As := [.int (((a4 ||| (a4 <<< (1 &&& 31))) ||| (a4 >>> (1 &&& 31))) &&& 1048575), .int a3, .int (((I 21 0) + a5) + 1)]) (st := []) (zd (i := .invokevirtual 282) (n := 3) (by decide +kernel)) to_X8_unseenOf g995 g997 g35 (Nat.le_of_ble_eq_true rfl) (by decide +kernel) (by decide +kernel) (by decide +kernel) rfl rfl rfl hc (fun r I' L' R' hq => by obtain ⟨y, rfl, hp⟩ := hq; exact kk y I' L' R' hp)
theorem w_X8_hidden_103 {Q : qQ} {I : qMI} {L : qML} {R : qMR} {a1 : Int32} {a2 : Int32} {a3 : Int32} {a4 : Int32} {a5 : Int32} {a6 : Int32} {s0 : Int32} (k : wkB l G (d + 1) n_X8_hidden Q 47 [.ref 0, .int a1, .int a2, .int a3, .int s0, .int (a5 + 1), wkU] [] I L R) : wkB l G (d + 1) n_X8_hidden Q 103 [.ref 0, .int a1, .int a2, .int a3, .int a4, .int a5, .int a6] [.int s0] I L R :=
  bb_istore (i := 4) (zd (i := .istore 4) (n := 2) (by decide +kernel)) (by decide +kernel) (wkNl_i rfl) <|
  bb_iinc (i := 5) (n := 1) (zd (i := .iinc 5 (1)) (n := 3) (by decide +kernel)) rfl rfl (by decide +kernel) (wkNl_i rfl) <|
  bb_lift (fun _ => q_goto (off := -61) (tgt := 47) (zd (i := .goto (-61)) (n := 3) (by decide +kernel)) (by decide)) (wkB_le (vs := [.ref 0, .int a1, .int a2, .int a3, .int s0, .int (a5 + 1), wkU]) (ws := [.ref 0, .int a1, .int a2, .int a3, .int s0, .int (a5 + 1), .int a6]) ⟨Or.inr rfl, Or.inr rfl, Or.inr rfl, Or.inr rfl, Or.inr rfl, Or.inr rfl, Or.inl rfl, trivial⟩ (k))
theorem w_X8_hidden_111 {Q : qQ} {I : qMI} {L : qML} {R : qMR} {a1 : Int32} {a2 : Int32} {a3 : Int32} {a4 : Int32} {a5 : Int32} (hQ : Q (some (.int (-2))) 336 I L R) : wkB l G (d + 1) n_X8_hidden Q 111 [.ref 0, .int a1, .int a2, .int a3, .int a4, .int a5, wkU] [] I L R :=
  bb_lift (fun _ => q_bipush (n := -2) (zd (i := .bipush (-2)) (n := 2) (by decide +kernel)) rfl) <|
  (fun lv hl => q_iret (zd (i := .ireturn) (n := 1) (by decide +kernel)) rfl rfl (Nat.le_refl _) (Nat.le_refl _) hQ)
theorem w_X8_unseenOf_0 {Q : qQ} {I : qMI} {L : qML} {R : qMR} {o : Nat} (ho : o = 9 ∨ o = 259) {a1 : Int32} {a2 : Int32} {a3 : Int32} (h1 : R 0 12 = some o) {P : Int32 → qMI → qML → qMR → Prop} (hc : wkCi l G d n_X0_heat [.ref o, .int a3] I L R P) (kk : ∀ y I' L' R', P y I' L' R' → wkB l G (d + 1) n_X8_unseenOf Q 8 [.ref 0, .int a1, .int a2, .int a3, wkU, wkU, wkU, wkU] [.int y] I' L' R') : wkB l G (d + 1) n_X8_unseenOf Q 0 [.ref 0, .int a1, .int a2, .int a3, wkU, wkU, wkU, wkU] [] I L R :=
  bb_aload_n (n := 0) (i := 0) (zd (i := .aload_n 0) (n := 1) (by decide +kernel)) rfl rfl <|
  bb_getr (k := 0) (ci := 8) (j := 12) (idx := 71) (a := o) (zd (i := .getfield 71) (n := 3) (by decide +kernel)) (by decide +kernel) (by decide +kernel) (by decide +kernel) (by decide +kernel) rfl g464 h1 <|
  bb_iload_n (n := 3) (i := 3) (zd (i := .iload_n 3) (n := 1) (by decide +kernel)) rfl rfl <|
  bb_callV (idx := 143) (k := o) (ci := 0) (N := n_X0_heat) (As := [.int a3]) (st := []) (zd (i := .invokevirtual 143) (n := 3) (by decide +kernel)) to_X0_heat g716 g717 g718 (Nat.le_of_ble_eq_true rfl) (by rcases ho with rfl | rfl <;> decide +kernel) (by rcases ho with rfl | rfl <;> decide +kernel) (by decide +kernel) rfl rfl rfl hc (fun r I' L' R' hq => by obtain ⟨y, rfl, hp⟩ := hq; exact kk y I' L' R' hp)
theorem w_X8_unseenOf_8 {Q : qQ} {I : qMI} {L : qML} {R : qMR} {a1 : Int32} {a2 : Int32} {a3 : Int32} {s0 : Int32} (k : wkB l G (d + 1) n_X8_unseenOf Q 16 [.ref 0, .int a1, .int a2, .int a3, .int s0, .int a1, .int 0, wkU] [] I L R) : wkB l G (d + 1) n_X8_unseenOf Q 8 [.ref 0, .int a1, .int a2, .int a3, wkU, wkU, wkU, wkU] [.int s0] I L R :=
  bb_istore (i := 4) (zd (i := .istore 4) (n := 2) (by decide +kernel)) (by decide +kernel) (wkNl_i rfl) <|
  bb_iload_n (n := 1) (i := 1) (zd (i := .iload_n 1) (n := 1) (by decide +kernel)) rfl rfl <|
  bb_istore (i := 5) (zd (i := .istore 5) (n := 2) (by decide +kernel)) (by decide +kernel) (wkNl_i rfl) <|
  bb_lift (fun _ => q_iconst (n := 0) (zd (i := .iconst (0)) (n := 1) (by decide +kernel)) rfl) <|
  bb_istore (i := 6) (zd (i := .istore 6) (n := 2) (by decide +kernel)) (by decide +kernel) (wkNl_i rfl) <|
  k
theorem w_X8_unseenOf_16 {Q : qQ} {I : qMI} {L : qML} {R : qMR} {a1 : Int32} {a2 : Int32} {a3 : Int32} {a4 : Int32} {a5 : Int32} {a6 : Int32} (kt : 20 ≤ a6 → wkB l G (d + 1) n_X8_unseenOf Q 110 [.ref 0, .int a1, .int a2, .int a3, .int a4, .int a5, .int a6, wkU] [] I L R) (kf : ¬ 20 ≤ a6 → wkB l G (d + 1) n_X8_unseenOf Q 23 [.ref 0, .int a1, .int a2, .int a3, .int a4, .int a5, .int a6, wkU] [] I L R) : wkB l G (d + 1) n_X8_unseenOf Q 16 [.ref 0, .int a1, .int a2, .int a3, .int a4, .int a5, .int a6, wkU] [] I L R :=
  bb_iload (i := 6) (zd (i := .iload 6) (n := 2) (by decide +kernel)) rfl <|
  bb_lift (fun _ => q_bipush (n := 20) (zd (i := .bipush (20)) (n := 2) (by decide +kernel)) rfl) <|
  (fun lv hl => q_icmp_ge (off := 90) (tgt := 110) (zd (i := .if_icmp .ge (90)) (n := 3) (by decide +kernel)) (by decide) (fun h => (kt h) lv hl) (fun h => (kf h) lv hl))
theorem w_X8_unseenOf_23 {Q : qQ} {I : qMI} {L : qML} {R : qMR} {a1 : Int32} {a2 : Int32} {a3 : Int32} {a4 : Int32} {a5 : Int32} {a6 : Int32} (k : wkB l G (d + 1) n_X8_unseenOf Q 26 [.ref 0, .int a1, .int a2, .int a3, .int a4, .int a5, .int a6, .int 0] [] I L R) : wkB l G (d + 1) n_X8_unseenOf Q 23 [.ref 0, .int a1, .int a2, .int a3, .int a4, .int a5, .int a6, wkU] [] I L R :=
  bb_lift (fun _ => q_iconst (n := 0) (zd (i := .iconst (0)) (n := 1) (by decide +kernel)) rfl) <|
  bb_istore (i := 7) (zd (i := .istore 7) (n := 2) (by decide +kernel)) (by decide +kernel) (wkNl_i rfl) <|
  k
theorem w_X8_unseenOf_26 {Q : qQ} {I : qMI} {L : qML} {R : qMR} {o : Nat} (ho : o = 9 ∨ o = 259) {a1 : Int32} {a2 : Int32} {a3 : Int32} {a4 : Int32} {a5 : Int32} {a6 : Int32} {a7 : Int32} (h1 : R 0 12 = some o) (kt : (I o 5) ≤ a7 → wkB l G (d + 1) n_X8_unseenOf Q 104 [.ref 0, .int a1, .int a2, .int a3, .int a4, .int a5, .int a6, .int a7] [] I L R) (kf : ¬ (I o 5) ≤ a7 → wkB l G (d + 1) n_X8_unseenOf Q 38 [.ref 0, .int a1, .int a2, .int a3, .int a4, .int a5, .int a6, .int a7] [] I L R) : wkB l G (d + 1) n_X8_unseenOf Q 26 [.ref 0, .int a1, .int a2, .int a3, .int a4, .int a5, .int a6, .int a7] [] I L R :=
  bb_iload (i := 7) (zd (i := .iload 7) (n := 2) (by decide +kernel)) rfl <|
  bb_aload_n (n := 0) (i := 0) (zd (i := .aload_n 0) (n := 1) (by decide +kernel)) rfl rfl <|
  bb_getr (k := 0) (ci := 8) (j := 12) (idx := 71) (a := o) (zd (i := .getfield 71) (n := 3) (by decide +kernel)) (by decide +kernel) (by decide +kernel) (by decide +kernel) (by decide +kernel) rfl g464 h1 <|
  bb_geti (k := o) (ci := 0) (j := 5) (idx := 230) (zd (i := .getfield 230) (n := 3) (by decide +kernel)) (by rcases ho with rfl | rfl <;> decide +kernel) (by rcases ho with rfl | rfl <;> decide +kernel) (by decide +kernel) (by decide +kernel) rfl g288 <|
  (fun lv hl => q_icmp_ge (off := 69) (tgt := 104) (zd (i := .if_icmp .ge (69)) (n := 3) (by decide +kernel)) (by decide) (fun h => (kt h) lv hl) (fun h => (kf h) lv hl))
theorem w_X8_unseenOf_38 {Q : qQ} {I : qMI} {L : qML} {R : qMR} {a1 : Int32} {a2 : Int32} {a3 : Int32} {a4 : Int32} {a5 : Int32} {a6 : Int32} {a7 : Int32} (kt : ((a5 >>> (a6 &&& 31)) &&& 1) = 0 → wkB l G (d + 1) n_X8_unseenOf Q 104 [.ref 0, .int a1, .int a2, .int a3, .int a4, .int a5, .int a6, .int a7] [] I L R) (kf : ¬ ((a5 >>> (a6 &&& 31)) &&& 1) = 0 → wkB l G (d + 1) n_X8_unseenOf Q 48 [.ref 0, .int a1, .int a2, .int a3, .int a4, .int a5, .int a6, .int a7] [] I L R) : wkB l G (d + 1) n_X8_unseenOf Q 38 [.ref 0, .int a1, .int a2, .int a3, .int a4, .int a5, .int a6, .int a7] [] I L R :=
  bb_iload (i := 5) (zd (i := .iload 5) (n := 2) (by decide +kernel)) rfl <|
  bb_iload (i := 6) (zd (i := .iload 6) (n := 2) (by decide +kernel)) rfl <|
  bb_lift (fun _ => q_ishr (zd (i := .ishr) (n := 1) (by decide +kernel))) <|
  bb_lift (fun _ => q_iconst (n := 1) (zd (i := .iconst (1)) (n := 1) (by decide +kernel)) rfl) <|
  bb_lift (fun _ => q_iand (zd (i := .iand) (n := 1) (by decide +kernel))) <|
  (fun lv hl => q_if_eq (off := 59) (tgt := 104) (zd (i := .ifCond .eq (59)) (n := 3) (by decide +kernel)) (by decide) (fun h => (kt h) lv hl) (fun h => (kf h) lv hl))
theorem w_X8_unseenOf_48 {Q : qQ} {I : qMI} {L : qML} {R : qMR} {o : Nat} (ho : o = 9 ∨ o = 259) {a1 : Int32} {a2 : Int32} {a3 : Int32} {a4 : Int32} {a5 : Int32} {a6 : Int32} {a7 : Int32} (h1 : R 0 12 = some o) (h2 : R o 12 = some (o + 6)) (h3 : R 0 2 = some 21) (h4 : R 21 1 = some 22) (h5 : vp_in a7 6) {P : qMI → qML → qMR → Prop} (hc : wkCv l G d n_X2_aim [.ref (o + 6), .int a3, .int a4, .int (I 22 a7.toNatClampNeg), .int a6, .int a2] I L R P) (kk : ∀ I' L' R', P I' L' R' → wkB l G (d + 1) n_X8_unseenOf Q 74 [.ref 0, .int a1, .int a2, .int a3, .int a4, .int a5, .int a6, .int a7] [] I' L' R') : wkB l G (d + 1) n_X8_unseenOf Q 48 [.ref 0, .int a1, .int a2, .int a3, .int a4, .int a5, .int a6, .int a7] [] I L R :=
  bb_aload_n (n := 0) (i := 0) (zd (i := .aload_n 0) (n := 1) (by decide +kernel)) rfl rfl <|
  bb_getr (k := 0) (ci := 8) (j := 12) (idx := 71) (a := o) (zd (i := .getfield 71) (n := 3) (by decide +kernel)) (by decide +kernel) (by decide +kernel) (by decide +kernel) (by decide +kernel) rfl g464 h1 <|
  bb_getr (k := o) (ci := 0) (j := 12) (idx := 186) (a := (o + 6)) (zd (i := .getfield 186) (n := 3) (by decide +kernel)) (by rcases ho with rfl | rfl <;> decide +kernel) (by rcases ho with rfl | rfl <;> decide +kernel) (by decide +kernel) (by decide +kernel) rfl g306 h2 <|
  bb_iload_n (n := 3) (i := 3) (zd (i := .iload_n 3) (n := 1) (by decide +kernel)) rfl rfl <|
  bb_iload (i := 4) (zd (i := .iload 4) (n := 2) (by decide +kernel)) rfl <|
  bb_aload_n (n := 0) (i := 0) (zd (i := .aload_n 0) (n := 1) (by decide +kernel)) rfl rfl <|
  bb_getr (k := 0) (ci := 8) (j := 2) (idx := 26) (a := 21) (zd (i := .getfield 26) (n := 3) (by decide +kernel)) (by decide +kernel) (by decide +kernel) (by decide +kernel) (by decide +kernel) rfl g454 h3 <|
  bb_getr (k := 21) (ci := 4) (j := 1) (idx := 134) (a := 22) (zd (i := .getfield 134) (n := 3) (by decide +kernel)) (by decide +kernel) (by decide +kernel) (by decide +kernel) (by decide +kernel) rfl g371 h4 <|
  bb_iload (i := 7) (zd (i := .iload 7) (n := 2) (by decide +kernel)) rfl <|
  bb_lift (fun _ => q_iald (k := 22) (zd (i := .iaload) (n := 1) (by decide +kernel)) (by decide +kernel) (by decide +kernel) h5) <|
  bb_iload (i := 6) (zd (i := .iload 6) (n := 2) (by decide +kernel)) rfl <|
  bb_iload_n (n := 2) (i := 2) (zd (i := .iload_n 2) (n := 1) (by decide +kernel)) rfl rfl <|
  bb_callV (idx := 286) (k := (o + 6)) (ci := 2) (N := n_X2_aim) (As := [.int a3, .int a4, .int (I 22 a7.toNatClampNeg), .int a6, .int a2]) (st := []) (zd (i := .invokevirtual 286) (n := 3) (by decide +kernel)) to_X2_aim g999 g750 g751 (Nat.le_of_ble_eq_true rfl) (by rcases ho with rfl | rfl <;> decide +kernel) (by rcases ho with rfl | rfl <;> decide +kernel) (by decide +kernel) rfl rfl rfl hc (fun r I' L' R' hq => by obtain ⟨rfl, hp⟩ := hq; exact kk I' L' R' hp)
theorem w_X8_unseenOf_74 {Q : qQ} {I : qMI} {L : qML} {R : qMR} {o : Nat} (ho : o = 9 ∨ o = 259) {a1 : Int32} {a2 : Int32} {a3 : Int32} {a4 : Int32} {a5 : Int32} {a6 : Int32} {a7 : Int32} (h1 : R 0 12 = some o) (h2 : R o 12 = some (o + 6)) {P : Int32 → qMI → qML → qMR → Prop} (hc : wkCi l G d n_X2_isSeen [.ref (o + 6)] I L R P) (kk : ∀ y I' L' R', P y I' L' R' → wkB l G (d + 1) n_X8_unseenOf Q 84 [.ref 0, .int a1, .int a2, .int a3, .int a4, .int a5, .int a6, .int a7] [.int y] I' L' R') : wkB l G (d + 1) n_X8_unseenOf Q 74 [.ref 0, .int a1, .int a2, .int a3, .int a4, .int a5, .int a6, .int a7] [] I L R :=
  bb_aload_n (n := 0) (i := 0) (zd (i := .aload_n 0) (n := 1) (by decide +kernel)) rfl rfl <|
  bb_getr (k := 0) (ci := 8) (j := 12) (idx := 71) (a := o) (zd (i := .getfield 71) (n := 3) (by decide +kernel)) (by decide +kernel) (by decide +kernel) (by decide +kernel) (by decide +kernel) rfl g464 h1 <|
  bb_getr (k := o) (ci := 0) (j := 12) (idx := 186) (a := (o + 6)) (zd (i := .getfield 186) (n := 3) (by decide +kernel)) (by rcases ho with rfl | rfl <;> decide +kernel) (by rcases ho with rfl | rfl <;> decide +kernel) (by decide +kernel) (by decide +kernel) rfl g306 h2 <|
  bb_callV (idx := 290) (k := (o + 6)) (ci := 2) (N := n_X2_isSeen) (As := []) (st := []) (zd (i := .invokevirtual 290) (n := 3) (by decide +kernel)) to_X2_isSeen g1000 g757 g758 (Nat.le_of_ble_eq_true rfl) (by rcases ho with rfl | rfl <;> decide +kernel) (by rcases ho with rfl | rfl <;> decide +kernel) (by decide +kernel) rfl rfl rfl hc (fun r I' L' R' hq => by obtain ⟨y, rfl, hp⟩ := hq; exact kk y I' L' R' hp)
theorem w_X8_unseenOf_84 {Q : qQ} {I : qMI} {L : qML} {R : qMR} {a1 : Int32} {a2 : Int32} {a3 : Int32} {a4 : Int32} {a5 : Int32} {a6 : Int32} {a7 : Int32} {s0 : Int32} (kt : s0 = 0 → wkB l G (d + 1) n_X8_unseenOf Q 98 [.ref 0, .int a1, .int a2, .int a3, .int a4, .int a5, .int a6, .int a7] [] I L R) (kf : ¬ s0 = 0 → wkB l G (d + 1) n_X8_unseenOf Q 87 [.ref 0, .int a1, .int a2, .int a3, .int a4, .int a5, .int a6, .int a7] [] I L R) : wkB l G (d + 1) n_X8_unseenOf Q 84 [.ref 0, .int a1, .int a2, .int a3, .int a4, .int a5, .int a6, .int a7] [.int s0] I L R :=
  (fun lv hl => q_if_eq (off := 14) (tgt := 98) (zd (i := .ifCond .eq (14)) (n := 3) (by decide +kernel)) (by decide) (fun h => (kt h) lv hl) (fun h => (kf h) lv hl))
theorem w_X8_unseenOf_87 {Q : qQ} {I : qMI} {L : qML} {R : qMR} {a1 : Int32} {a2 : Int32} {a3 : Int32} {a4 : Int32} {a5 : Int32} {a6 : Int32} {a7 : Int32} (k : wkB l G (d + 1) n_X8_unseenOf Q 98 [.ref 0, .int a1, .int a2, .int a3, .int a4, .int (a5 &&& ((1 <<< (a6 &&& 31)) ^^^ (-1))), .int a6, .int a7] [] I L R) : wkB l G (d + 1) n_X8_unseenOf Q 87 [.ref 0, .int a1, .int a2, .int a3, .int a4, .int a5, .int a6, .int a7] [] I L R :=
  bb_iload (i := 5) (zd (i := .iload 5) (n := 2) (by decide +kernel)) rfl <|
  bb_lift (fun _ => q_iconst (n := 1) (zd (i := .iconst (1)) (n := 1) (by decide +kernel)) rfl) <|
  bb_iload (i := 6) (zd (i := .iload 6) (n := 2) (by decide +kernel)) rfl <|
  bb_lift (fun _ => q_ishl (zd (i := .ishl) (n := 1) (by decide +kernel))) <|
  bb_lift (fun _ => q_iconst (n := -1) (zd (i := .iconst (-1)) (n := 1) (by decide +kernel)) rfl) <|
  bb_lift (fun _ => q_ixor (zd (i := .ixor) (n := 1) (by decide +kernel))) <|
  bb_lift (fun _ => q_iand (zd (i := .iand) (n := 1) (by decide +kernel))) <|
  bb_istore (i := 5) (zd (i := .istore 5) (n := 2) (by decide +kernel)) (by decide +kernel) (wkNl_i rfl) <|
  k
theorem w_X8_unseenOf_98 {Q : qQ} {I : qMI} {L : qML} {R : qMR} {a1 : Int32} {a2 : Int32} {a3 : Int32} {a4 : Int32} {a5 : Int32} {a6 : Int32} {a7 : Int32} (k : wkB l G (d + 1) n_X8_unseenOf Q 26 [.ref 0, .int a1, .int a2, .int a3, .int a4, .int a5, .int a6, .int (a7 + 1)] [] I L R) : wkB l G (d + 1) n_X8_unseenOf Q 98 [.ref 0, .int a1, .int a2, .int a3, .int a4, .int a5, .int a6, .int a7] [] I L R :=
  bb_iinc (i := 7) (n := 1) (zd (i := .iinc 7 (1)) (n := 3) (by decide +kernel)) rfl rfl (by decide +kernel) (wkNl_i rfl) <|
  bb_lift (fun _ => q_goto (off := -75) (tgt := 26) (zd (i := .goto (-75)) (n := 3) (by decide +kernel)) (by decide)) k
theorem w_X8_unseenOf_104 {Q : qQ} {I : qMI} {L : qML} {R : qMR} {a1 : Int32} {a2 : Int32} {a3 : Int32} {a4 : Int32} {a5 : Int32} {a6 : Int32} {a7 : Int32} (k : wkB l G (d + 1) n_X8_unseenOf Q 16 [.ref 0, .int a1, .int a2, .int a3, .int a4, .int a5, .int (a6 + 1), wkU] [] I L R) : wkB l G (d + 1) n_X8_unseenOf Q 104 [.ref 0, .int a1, .int a2, .int a3, .int a4, .int a5, .int a6, .int a7] [] I L R :=
  bb_iinc (i := 6) (n := 1) (zd (i := .iinc 6 (1)) (n := 3) (by decide +kernel)) rfl rfl (by decide +kernel) (wkNl_i rfl) <|
  bb_lift (fun _ => q_goto (off := -91) (tgt := 16) (zd (i := .goto (-91)) (n := 3) (by decide +kernel)) (by decide)) (wkB_le (vs := [.ref 0, .int a1, .int a2, .int a3, .int a4, .int a5, .int (a6 + 1), wkU]) (ws := [.ref 0, .int a1, .int a2, .int a3, .int a4, .int a5, .int (a6 + 1), .int a7]) ⟨Or.inr rfl, Or.inr rfl, Or.inr rfl, Or.inr rfl, Or.inr rfl, Or.inr rfl, Or.inr rfl, Or.inl rfl, trivial⟩ (k))
theorem w_X8_unseenOf_110 {Q : qQ} {I : qMI} {L : qML} {R : qMR} {a1 : Int32} {a2 : Int32} {a3 : Int32} {a4 : Int32} {a5 : Int32} {a6 : Int32} (hQ : Q (some (.int a5)) 336 I L R) : wkB l G (d + 1) n_X8_unseenOf Q 110 [.ref 0, .int a1, .int a2, .int a3, .int a4, .int a5, .int a6, wkU] [] I L R :=
  bb_iload (i := 5) (zd (i := .iload 5) (n := 2) (by decide +kernel)) rfl <|
  (fun lv hl => q_iret (zd (i := .ireturn) (n := 1) (by decide +kernel)) rfl rfl (Nat.le_refl _) (Nat.le_refl _) hQ)
theorem w_X8_umbrellas_0 {Q : qQ} {I : qMI} {L : qML} {R : qMR} {a1 : Int32} {a2 : Int32} (kt : a1 < 1 → wkB l G (d + 1) n_X8_umbrellas Q 20 [.ref 0, .int a1, .int a2, wkU] [] I L R) (kf : ¬ a1 < 1 → wkB l G (d + 1) n_X8_umbrellas Q 5 [.ref 0, .int a1, .int a2, wkU] [] I L R) : wkB l G (d + 1) n_X8_umbrellas Q 0 [.ref 0, .int a1, .int a2, wkU] [] I L R :=
  bb_iload_n (n := 1) (i := 1) (zd (i := .iload_n 1) (n := 1) (by decide +kernel)) rfl rfl <|
  bb_lift (fun _ => q_iconst (n := 1) (zd (i := .iconst (1)) (n := 1) (by decide +kernel)) rfl) <|
  (fun lv hl => q_icmp_lt (off := 18) (tgt := 20) (zd (i := .if_icmp .lt (18)) (n := 3) (by decide +kernel)) (by decide) (fun h => (kt h) lv hl) (fun h => (kf h) lv hl))
theorem w_X8_umbrellas_5 {Q : qQ} {I : qMI} {L : qML} {R : qMR} {a1 : Int32} {a2 : Int32} (kt : 3 < a1 → wkB l G (d + 1) n_X8_umbrellas Q 20 [.ref 0, .int a1, .int a2, wkU] [] I L R) (kf : ¬ 3 < a1 → wkB l G (d + 1) n_X8_umbrellas Q 10 [.ref 0, .int a1, .int a2, wkU] [] I L R) : wkB l G (d + 1) n_X8_umbrellas Q 5 [.ref 0, .int a1, .int a2, wkU] [] I L R :=
  bb_iload_n (n := 1) (i := 1) (zd (i := .iload_n 1) (n := 1) (by decide +kernel)) rfl rfl <|
  bb_lift (fun _ => q_iconst (n := 3) (zd (i := .iconst (3)) (n := 1) (by decide +kernel)) rfl) <|
  (fun lv hl => q_icmp_gt (off := 13) (tgt := 20) (zd (i := .if_icmp .gt (13)) (n := 3) (by decide +kernel)) (by decide) (fun h => (kt h) lv hl) (fun h => (kf h) lv hl))
theorem w_X8_umbrellas_10 {Q : qQ} {I : qMI} {L : qML} {R : qMR} {a1 : Int32} {a2 : Int32} (kt : a2 < (-1) → wkB l G (d + 1) n_X8_umbrellas Q 20 [.ref 0, .int a1, .int a2, wkU] [] I L R) (kf : ¬ a2 < (-1) → wkB l G (d + 1) n_X8_umbrellas Q 15 [.ref 0, .int a1, .int a2, wkU] [] I L R) : wkB l G (d + 1) n_X8_umbrellas Q 10 [.ref 0, .int a1, .int a2, wkU] [] I L R :=
  bb_iload_n (n := 2) (i := 2) (zd (i := .iload_n 2) (n := 1) (by decide +kernel)) rfl rfl <|
  bb_lift (fun _ => q_iconst (n := -1) (zd (i := .iconst (-1)) (n := 1) (by decide +kernel)) rfl) <|
  (fun lv hl => q_icmp_lt (off := 8) (tgt := 20) (zd (i := .if_icmp .lt (8)) (n := 3) (by decide +kernel)) (by decide) (fun h => (kt h) lv hl) (fun h => (kf h) lv hl))
theorem w_X8_umbrellas_15 {Q : qQ} {I : qMI} {L : qML} {R : qMR} {a1 : Int32} {a2 : Int32} (kt : a2 < a1 → wkB l G (d + 1) n_X8_umbrellas Q 22 [.ref 0, .int a1, .int a2, wkU] [] I L R) (kf : ¬ a2 < a1 → wkB l G (d + 1) n_X8_umbrellas Q 20 [.ref 0, .int a1, .int a2, wkU] [] I L R) : wkB l G (d + 1) n_X8_umbrellas Q 15 [.ref 0, .int a1, .int a2, wkU] [] I L R :=
  bb_iload_n (n := 2) (i := 2) (zd (i := .iload_n 2) (n := 1) (by decide +kernel)) rfl rfl <|
  bb_iload_n (n := 1) (i := 1) (zd (i := .iload_n 1) (n := 1) (by decide +kernel)) rfl rfl <|
  (fun lv hl => q_icmp_lt (off := 5) (tgt := 22) (zd (i := .if_icmp .lt (5)) (n := 3) (by decide +kernel)) (by decide) (fun h => (kt h) lv hl) (fun h => (kf h) lv hl))
theorem w_X8_umbrellas_20 {Q : qQ} {I : qMI} {L : qML} {R : qMR} {a1 : Int32} {a2 : Int32} (hQ : Q (some (.int (-1))) 336 I L R) : wkB l G (d + 1) n_X8_umbrellas Q 20 [.ref 0, .int a1, .int a2, wkU] [] I L R :=
  bb_lift (fun _ => q_iconst (n := -1) (zd (i := .iconst (-1)) (n := 1) (by decide +kernel)) rfl) <|
  (fun lv hl => q_iret (zd (i := .ireturn) (n := 1) (by decide +kernel)) rfl rfl (Nat.le_refl _) (Nat.le_refl _) hQ)
theorem w_X8_umbrellas_22 {Q : qQ} {I : qMI} {L : qML} {R : qMR} {a1 : Int32} {a2 : Int32} {P : Int32 → qMI → qML → qMR → Prop} (hc : wkCi l G d n_X8_pitchUmbrellas [.ref 0, .int a1] I L R P) (kk : ∀ y I' L' R', P y I' L' R' → wkB l G (d + 1) n_X8_umbrellas Q 27 [.ref 0, .int a1, .int a2, wkU] [.int y] I' L' R') : wkB l G (d + 1) n_X8_umbrellas Q 22 [.ref 0, .int a1, .int a2, wkU] [] I L R :=
  bb_aload_n (n := 0) (i := 0) (zd (i := .aload_n 0) (n := 1) (by decide +kernel)) rfl rfl <|
  bb_iload_n (n := 1) (i := 1) (zd (i := .iload_n 1) (n := 1) (by decide +kernel)) rfl rfl <|
  bb_callV (idx := 261) (k := 0) (ci := 8) (N := n_X8_pitchUmbrellas) (As := [.int a1]) (st := []) (zd (i := .invokevirtual 261) (n := 3) (by decide +kernel)) to_X8_pitchUmbrellas g966 g968 g33 (Nat.le_of_ble_eq_true rfl) (by decide +kernel) (by decide +kernel) (by decide +kernel) rfl rfl rfl hc (fun r I' L' R' hq => by obtain ⟨y, rfl, hp⟩ := hq; exact kk y I' L' R' hp)
theorem w_X8_umbrellas_27 {Q : qQ} {I : qMI} {L : qML} {R : qMR} {a1 : Int32} {a2 : Int32} {s0 : Int32} (kt : ¬ a2 = (-1) → wkB l G (d + 1) n_X8_umbrellas Q 37 [.ref 0, .int a1, .int a2, .int s0] [] I L R) (kf : a2 = (-1) → wkB l G (d + 1) n_X8_umbrellas Q 33 [.ref 0, .int a1, .int a2, .int s0] [] I L R) : wkB l G (d + 1) n_X8_umbrellas Q 27 [.ref 0, .int a1, .int a2, wkU] [.int s0] I L R :=
  bb_istore_n (n := 3) (i := 3) (zd (i := .istore_n 3) (n := 1) (by decide +kernel)) rfl (by decide +kernel) (wkNl_i rfl) <|
  bb_iload_n (n := 2) (i := 2) (zd (i := .iload_n 2) (n := 1) (by decide +kernel)) rfl rfl <|
  bb_lift (fun _ => q_iconst (n := -1) (zd (i := .iconst (-1)) (n := 1) (by decide +kernel)) rfl) <|
  (fun lv hl => q_icmp_ne (off := 7) (tgt := 37) (zd (i := .if_icmp .ne (7)) (n := 3) (by decide +kernel)) (by decide) (fun h => (kt h) lv hl) (fun h => (kf h) lv hl))
theorem w_X8_umbrellas_33 {Q : qQ} {I : qMI} {L : qML} {R : qMR} {a1 : Int32} {a2 : Int32} {a3 : Int32} (k : wkB l G (d + 1) n_X8_umbrellas Q 43 [.ref 0, .int a1, .int a2, .int a3] [.int a3] I L R) : wkB l G (d + 1) n_X8_umbrellas Q 33 [.ref 0, .int a1, .int a2, .int a3] [] I L R :=
  bb_iload_n (n := 3) (i := 3) (zd (i := .iload_n 3) (n := 1) (by decide +kernel)) rfl rfl <|
  bb_lift (fun _ => q_goto (off := 9) (tgt := 43) (zd (i := .goto (9)) (n := 3) (by decide +kernel)) (by decide)) k
theorem w_X8_umbrellas_37 {Q : qQ} {I : qMI} {L : qML} {R : qMR} {a1 : Int32} {a2 : Int32} {a3 : Int32} (h1 : R 0 11 = some 258) (h2 : vp_in a2 3) (k : wkB l G (d + 1) n_X8_umbrellas Q 43 [.ref 0, .int a1, .int a2, .int a3] [.int (I 258 a2.toNatClampNeg)] I L R) : wkB l G (d + 1) n_X8_umbrellas Q 37 [.ref 0, .int a1, .int a2, .int a3] [] I L R :=
  bb_aload_n (n := 0) (i := 0) (zd (i := .aload_n 0) (n := 1) (by decide +kernel)) rfl rfl <|
  bb_getr (k := 0) (ci := 8) (j := 11) (idx := 65) (a := 258) (zd (i := .getfield 65) (n := 3) (by decide +kernel)) (by decide +kernel) (by decide +kernel) (by decide +kernel) (by decide +kernel) rfl g463 h1 <|
  bb_iload_n (n := 2) (i := 2) (zd (i := .iload_n 2) (n := 1) (by decide +kernel)) rfl rfl <|
  bb_lift (fun _ => q_iald (k := 258) (zd (i := .iaload) (n := 1) (by decide +kernel)) (by decide +kernel) (by decide +kernel) h2) <|
  k
theorem w_X8_umbrellas_43 {Q : qQ} {I : qMI} {L : qML} {R : qMR} {a1 : Int32} {a2 : Int32} {a3 : Int32} {s0 : Int32} (hQ : Q (some (.int s0)) 336 I L R) : wkB l G (d + 1) n_X8_umbrellas Q 43 [.ref 0, .int a1, .int a2, .int a3] [.int s0] I L R :=
  (fun lv hl => q_iret (zd (i := .ireturn) (n := 1) (by decide +kernel)) rfl rfl (Nat.le_refl _) (Nat.le_refl _) hQ)
theorem w_X8_pitchUmbrellas_0 {Q : qQ} {I : qMI} {L : qML} {R : qMR} {o : Nat} (ho : o = 9 ∨ o = 259) {a1 : Int32} (h1 : R 0 12 = some o) (h2 : R 0 2 = some 21) {P : Int32 → qMI → qML → qMR → Prop} (hc : wkCi l G d n_X0_heat [.ref o, .int (I 21 0)] I L R P) (kk : ∀ y I' L' R', P y I' L' R' → wkB l G (d + 1) n_X8_pitchUmbrellas Q 14 [.ref 0, .int a1, wkU, wkU, wkU, wkU, wkU, wkU] [.int y] I' L' R') : wkB l G (d + 1) n_X8_pitchUmbrellas Q 0 [.ref 0, .int a1, wkU, wkU, wkU, wkU, wkU, wkU] [] I L R :=
  bb_aload_n (n := 0) (i := 0) (zd (i := .aload_n 0) (n := 1) (by decide +kernel)) rfl rfl <|
  bb_getr (k := 0) (ci := 8) (j := 12) (idx := 71) (a := o) (zd (i := .getfield 71) (n := 3) (by decide +kernel)) (by decide +kernel) (by decide +kernel) (by decide +kernel) (by decide +kernel) rfl g464 h1 <|
  bb_aload_n (n := 0) (i := 0) (zd (i := .aload_n 0) (n := 1) (by decide +kernel)) rfl rfl <|
  bb_getr (k := 0) (ci := 8) (j := 2) (idx := 26) (a := 21) (zd (i := .getfield 26) (n := 3) (by decide +kernel)) (by decide +kernel) (by decide +kernel) (by decide +kernel) (by decide +kernel) rfl g454 h2 <|
  bb_geti (k := 21) (ci := 4) (j := 0) (idx := 140) (zd (i := .getfield 140) (n := 3) (by decide +kernel)) (by decide +kernel) (by decide +kernel) (by decide +kernel) (by decide +kernel) rfl g368 <|
  bb_callV (idx := 143) (k := o) (ci := 0) (N := n_X0_heat) (As := [.int (I 21 0)]) (st := []) (zd (i := .invokevirtual 143) (n := 3) (by decide +kernel)) to_X0_heat g716 g717 g718 (Nat.le_of_ble_eq_true rfl) (by rcases ho with rfl | rfl <;> decide +kernel) (by rcases ho with rfl | rfl <;> decide +kernel) (by decide +kernel) rfl rfl rfl hc (fun r I' L' R' hq => by obtain ⟨y, rfl, hp⟩ := hq; exact kk y I' L' R' hp)
theorem w_X8_pitchUmbrellas_14 {Q : qQ} {I : qMI} {L : qML} {R : qMR} {a1 : Int32} {s0 : Int32} (k : wkB l G (d + 1) n_X8_pitchUmbrellas Q 17 [.ref 0, .int a1, .int s0, .int 0, wkU, wkU, wkU, wkU] [] I L R) : wkB l G (d + 1) n_X8_pitchUmbrellas Q 14 [.ref 0, .int a1, wkU, wkU, wkU, wkU, wkU, wkU] [.int s0] I L R :=
  bb_istore_n (n := 2) (i := 2) (zd (i := .istore_n 2) (n := 1) (by decide +kernel)) rfl (by decide +kernel) (wkNl_i rfl) <|
  bb_lift (fun _ => q_iconst (n := 0) (zd (i := .iconst (0)) (n := 1) (by decide +kernel)) rfl) <|
  bb_istore_n (n := 3) (i := 3) (zd (i := .istore_n 3) (n := 1) (by decide +kernel)) rfl (by decide +kernel) (wkNl_i rfl) <|
  k
theorem w_X8_pitchUmbrellas_17 {Q : qQ} {I : qMI} {L : qML} {R : qMR} {a1 : Int32} {a2 : Int32} {a3 : Int32} (kt : 20 ≤ a3 → wkB l G (d + 1) n_X8_pitchUmbrellas Q 41 [.ref 0, .int a1, .int a2, .int a3, wkU, wkU, wkU, wkU] [] I L R) (kf : ¬ 20 ≤ a3 → wkB l G (d + 1) n_X8_pitchUmbrellas Q 23 [.ref 0, .int a1, .int a2, .int a3, wkU, wkU, wkU, wkU] [] I L R) : wkB l G (d + 1) n_X8_pitchUmbrellas Q 17 [.ref 0, .int a1, .int a2, .int a3, wkU, wkU, wkU, wkU] [] I L R :=
  bb_iload_n (n := 3) (i := 3) (zd (i := .iload_n 3) (n := 1) (by decide +kernel)) rfl rfl <|
  bb_lift (fun _ => q_bipush (n := 20) (zd (i := .bipush (20)) (n := 2) (by decide +kernel)) rfl) <|
  (fun lv hl => q_icmp_ge (off := 21) (tgt := 41) (zd (i := .if_icmp .ge (21)) (n := 3) (by decide +kernel)) (by decide) (fun h => (kt h) lv hl) (fun h => (kf h) lv hl))
theorem w_X8_pitchUmbrellas_23 {Q : qQ} {I : qMI} {L : qML} {R : qMR} {a1 : Int32} {a2 : Int32} {a3 : Int32} (h1 : R 0 8 = some 255) {P : Int32 → qMI → qML → qMR → Prop} (hc : wkCi l G d n_X8_thingsSeenFrom [.ref 0, .int a3, .int a2] I L R P) (kk : ∀ y I' L' R', P y I' L' R' → wkB l G (d + 1) n_X8_pitchUmbrellas Q 34 [.ref 0, .int a1, .int a2, .int a3, wkU, wkU, wkU, wkU] [.int y, .int a3, .ref 255] I' L' R') : wkB l G (d + 1) n_X8_pitchUmbrellas Q 23 [.ref 0, .int a1, .int a2, .int a3, wkU, wkU, wkU, wkU] [] I L R :=
  bb_aload_n (n := 0) (i := 0) (zd (i := .aload_n 0) (n := 1) (by decide +kernel)) rfl rfl <|
  bb_getr (k := 0) (ci := 8) (j := 8) (idx := 55) (a := 255) (zd (i := .getfield 55) (n := 3) (by decide +kernel)) (by decide +kernel) (by decide +kernel) (by decide +kernel) (by decide +kernel) rfl g460 h1 <|
  bb_iload_n (n := 3) (i := 3) (zd (i := .iload_n 3) (n := 1) (by decide +kernel)) rfl rfl <|
  bb_aload_n (n := 0) (i := 0) (zd (i := .aload_n 0) (n := 1) (by decide +kernel)) rfl rfl <|
  bb_iload_n (n := 3) (i := 3) (zd (i := .iload_n 3) (n := 1) (by decide +kernel)) rfl rfl <|
  bb_iload_n (n := 2) (i := 2) (zd (i := .iload_n 2) (n := 1) (by decide +kernel)) rfl rfl <|
  bb_callV (idx := 146) (k := 0) (ci := 8) (N := n_X8_thingsSeenFrom) (As := [.int a3, .int a2]) (st := [.int a3, .ref 255]) (zd (i := .invokevirtual 146) (n := 3) (by decide +kernel)) to_X8_thingsSeenFrom g775 g777 g24 (Nat.le_of_ble_eq_true rfl) (by decide +kernel) (by decide +kernel) (by decide +kernel) rfl rfl rfl hc (fun r I' L' R' hq => by obtain ⟨y, rfl, hp⟩ := hq; exact kk y I' L' R' hp)
theorem w_X8_pitchUmbrellas_34 {Q : qQ} {I : qMI} {L : qML} {R : qMR} {a1 : Int32} {a2 : Int32} {a3 : Int32} {s1 : Int32} {s2 : Int32} (h1 : vp_in s1 20) (k : wkB l G (d + 1) n_X8_pitchUmbrellas Q 17 [.ref 0, .int a1, .int a2, .int (a3 + 1), wkU, wkU, wkU, wkU] [] (qUp I 255 s1.toNatClampNeg s2) L R) : wkB l G (d + 1) n_X8_pitchUmbrellas Q 34 [.ref 0, .int a1, .int a2, .int a3, wkU, wkU, wkU, wkU] [.int s2, .int s1, .ref 255] I L R :=
  bb_lift (fun _ => q_iast (k := 255) (zd (i := .iastore) (n := 1) (by decide +kernel)) (by decide +kernel) (by decide +kernel) h1) <|
  bb_iinc (i := 3) (n := 1) (zd (i := .iinc 3 (1)) (n := 3) (by decide +kernel)) rfl rfl (by decide +kernel) (wkNl_i rfl) <|
  bb_lift (fun _ => q_goto (off := -21) (tgt := 17) (zd (i := .goto (-21)) (n := 3) (by decide +kernel)) (by decide)) k
theorem w_X8_pitchUmbrellas_41 {Q : qQ} {I : qMI} {L : qML} {R : qMR} {a1 : Int32} {a2 : Int32} {a3 : Int32} (k : wkB l G (d + 1) n_X8_pitchUmbrellas Q 43 [.ref 0, .int a1, .int a2, .int 0, wkU, wkU, wkU, wkU] [] I L R) : wkB l G (d + 1) n_X8_pitchUmbrellas Q 41 [.ref 0, .int a1, .int a2, .int a3, wkU, wkU, wkU, wkU] [] I L R :=
  bb_lift (fun _ => q_iconst (n := 0) (zd (i := .iconst (0)) (n := 1) (by decide +kernel)) rfl) <|
  bb_istore_n (n := 3) (i := 3) (zd (i := .istore_n 3) (n := 1) (by decide +kernel)) rfl (by decide +kernel) (wkNl_i rfl) <|
  k
theorem w_X8_pitchUmbrellas_43 {Q : qQ} {I : qMI} {L : qML} {R : qMR} {a1 : Int32} {a2 : Int32} {a3 : Int32} (kt : a1 ≤ a3 → wkB l G (d + 1) n_X8_pitchUmbrellas Q 61 [.ref 0, .int a1, .int a2, .int a3, wkU, wkU, wkU, wkU] [] I L R) (kf : ¬ a1 ≤ a3 → wkB l G (d + 1) n_X8_pitchUmbrellas Q 48 [.ref 0, .int a1, .int a2, .int a3, wkU, wkU, wkU, wkU] [] I L R) : wkB l G (d + 1) n_X8_pitchUmbrellas Q 43 [.ref 0, .int a1, .int a2, .int a3, wkU, wkU, wkU, wkU] [] I L R :=
  bb_iload_n (n := 3) (i := 3) (zd (i := .iload_n 3) (n := 1) (by decide +kernel)) rfl rfl <|
  bb_iload_n (n := 1) (i := 1) (zd (i := .iload_n 1) (n := 1) (by decide +kernel)) rfl rfl <|
  (fun lv hl => q_icmp_ge (off := 16) (tgt := 61) (zd (i := .if_icmp .ge (16)) (n := 3) (by decide +kernel)) (by decide) (fun h => (kt h) lv hl) (fun h => (kf h) lv hl))
theorem w_X8_pitchUmbrellas_48 {Q : qQ} {I : qMI} {L : qML} {R : qMR} {a1 : Int32} {a2 : Int32} {a3 : Int32} (h1 : R 0 10 = some 257) (h2 : vp_in a3 3) (k : wkB l G (d + 1) n_X8_pitchUmbrellas Q 43 [.ref 0, .int a1, .int a2, .int (a3 + 1), wkU, wkU, wkU, wkU] [] (qUp I 257 a3.toNatClampNeg a3) L R) : wkB l G (d + 1) n_X8_pitchUmbrellas Q 48 [.ref 0, .int a1, .int a2, .int a3, wkU, wkU, wkU, wkU] [] I L R :=
  bb_aload_n (n := 0) (i := 0) (zd (i := .aload_n 0) (n := 1) (by decide +kernel)) rfl rfl <|
  bb_getr (k := 0) (ci := 8) (j := 10) (idx := 62) (a := 257) (zd (i := .getfield 62) (n := 3) (by decide +kernel)) (by decide +kernel) (by decide +kernel) (by decide +kernel) (by decide +kernel) rfl g462 h1 <|
  bb_iload_n (n := 3) (i := 3) (zd (i := .iload_n 3) (n := 1) (by decide +kernel)) rfl rfl <|
  bb_iload_n (n := 3) (i := 3) (zd (i := .iload_n 3) (n := 1) (by decide +kernel)) rfl rfl <|
  bb_lift (fun _ => q_iast (k := 257) (zd (i := .iastore) (n := 1) (by decide +kernel)) (by decide +kernel) (by decide +kernel) h2) <|
  bb_iinc (i := 3) (n := 1) (zd (i := .iinc 3 (1)) (n := 3) (by decide +kernel)) rfl rfl (by decide +kernel) (wkNl_i rfl) <|
  bb_lift (fun _ => q_goto (off := -15) (tgt := 43) (zd (i := .goto (-15)) (n := 3) (by decide +kernel)) (by decide)) k
theorem w_X8_pitchUmbrellas_61 {Q : qQ} {I : qMI} {L : qML} {R : qMR} {a1 : Int32} {a2 : Int32} {a3 : Int32} (k : wkB l G (d + 1) n_X8_pitchUmbrellas Q 69 [.ref 0, .int a1, .int a2, .int (-1), .int 1, .int 0, wkU, wkU] [] I L R) : wkB l G (d + 1) n_X8_pitchUmbrellas Q 61 [.ref 0, .int a1, .int a2, .int a3, wkU, wkU, wkU, wkU] [] I L R :=
  bb_lift (fun _ => q_iconst (n := -1) (zd (i := .iconst (-1)) (n := 1) (by decide +kernel)) rfl) <|
  bb_istore_n (n := 3) (i := 3) (zd (i := .istore_n 3) (n := 1) (by decide +kernel)) rfl (by decide +kernel) (wkNl_i rfl) <|
  bb_lift (fun _ => q_iconst (n := 1) (zd (i := .iconst (1)) (n := 1) (by decide +kernel)) rfl) <|
  bb_istore (i := 4) (zd (i := .istore 4) (n := 2) (by decide +kernel)) (by decide +kernel) (wkNl_i rfl) <|
  bb_lift (fun _ => q_iconst (n := 0) (zd (i := .iconst (0)) (n := 1) (by decide +kernel)) rfl) <|
  bb_istore (i := 5) (zd (i := .istore 5) (n := 2) (by decide +kernel)) (by decide +kernel) (wkNl_i rfl) <|
  k
theorem w_X8_pitchUmbrellas_69 {Q : qQ} {I : qMI} {L : qML} {R : qMR} {a1 : Int32} {a2 : Int32} {a3 : Int32} {a4 : Int32} {a5 : Int32} (kt : 1140 ≤ a5 → wkB l G (d + 1) n_X8_pitchUmbrellas Q 159 [.ref 0, .int a1, .int a2, .int a3, .int a4, .int a5, wkU, wkU] [] I L R) (kf : ¬ 1140 ≤ a5 → wkB l G (d + 1) n_X8_pitchUmbrellas Q 77 [.ref 0, .int a1, .int a2, .int a3, .int a4, .int a5, wkU, wkU] [] I L R) : wkB l G (d + 1) n_X8_pitchUmbrellas Q 69 [.ref 0, .int a1, .int a2, .int a3, .int a4, .int a5, wkU, wkU] [] I L R :=
  bb_iload (i := 5) (zd (i := .iload 5) (n := 2) (by decide +kernel)) rfl <|
  bb_lift (fun _ => q_sipush (n := 1140) (zd (i := .sipush (1140)) (n := 3) (by decide +kernel)) rfl) <|
  (fun lv hl => q_icmp_ge (off := 85) (tgt := 159) (zd (i := .if_icmp .ge (85)) (n := 3) (by decide +kernel)) (by decide) (fun h => (kt h) lv hl) (fun h => (kf h) lv hl))
theorem w_X8_pitchUmbrellas_77 {Q : qQ} {I : qMI} {L : qML} {R : qMR} {a1 : Int32} {a2 : Int32} {a3 : Int32} {a4 : Int32} {a5 : Int32} (kt : a4 = 0 → wkB l G (d + 1) n_X8_pitchUmbrellas Q 159 [.ref 0, .int a1, .int a2, .int a3, .int a4, .int a5, wkU, wkU] [] I L R) (kf : ¬ a4 = 0 → wkB l G (d + 1) n_X8_pitchUmbrellas Q 82 [.ref 0, .int a1, .int a2, .int a3, .int a4, .int a5, wkU, wkU] [] I L R) : wkB l G (d + 1) n_X8_pitchUmbrellas Q 77 [.ref 0, .int a1, .int a2, .int a3, .int a4, .int a5, wkU, wkU] [] I L R :=
  bb_iload (i := 4) (zd (i := .iload 4) (n := 2) (by decide +kernel)) rfl <|
  (fun lv hl => q_if_eq (off := 80) (tgt := 159) (zd (i := .ifCond .eq (80)) (n := 3) (by decide +kernel)) (by decide) (fun h => (kt h) lv hl) (fun h => (kf h) lv hl))
theorem w_X8_pitchUmbrellas_82 {Q : qQ} {I : qMI} {L : qML} {R : qMR} {a1 : Int32} {a2 : Int32} {a3 : Int32} {a4 : Int32} {a5 : Int32} (k : wkB l G (d + 1) n_X8_pitchUmbrellas Q 88 [.ref 0, .int a1, .int a2, .int a3, .int a4, .int a5, .int 0, .int 0] [] I L R) : wkB l G (d + 1) n_X8_pitchUmbrellas Q 82 [.ref 0, .int a1, .int a2, .int a3, .int a4, .int a5, wkU, wkU] [] I L R :=
  bb_lift (fun _ => q_iconst (n := 0) (zd (i := .iconst (0)) (n := 1) (by decide +kernel)) rfl) <|
  bb_istore (i := 6) (zd (i := .istore 6) (n := 2) (by decide +kernel)) (by decide +kernel) (wkNl_i rfl) <|
  bb_lift (fun _ => q_iconst (n := 0) (zd (i := .iconst (0)) (n := 1) (by decide +kernel)) rfl) <|
  bb_istore (i := 7) (zd (i := .istore 7) (n := 2) (by decide +kernel)) (by decide +kernel) (wkNl_i rfl) <|
  k
theorem w_X8_pitchUmbrellas_88 {Q : qQ} {I : qMI} {L : qML} {R : qMR} {a1 : Int32} {a2 : Int32} {a3 : Int32} {a4 : Int32} {a5 : Int32} {a6 : Int32} {a7 : Int32} (kt : a1 ≤ a7 → wkB l G (d + 1) n_X8_pitchUmbrellas Q 117 [.ref 0, .int a1, .int a2, .int a3, .int a4, .int a5, .int a6, .int a7] [] I L R) (kf : ¬ a1 ≤ a7 → wkB l G (d + 1) n_X8_pitchUmbrellas Q 94 [.ref 0, .int a1, .int a2, .int a3, .int a4, .int a5, .int a6, .int a7] [] I L R) : wkB l G (d + 1) n_X8_pitchUmbrellas Q 88 [.ref 0, .int a1, .int a2, .int a3, .int a4, .int a5, .int a6, .int a7] [] I L R :=
  bb_iload (i := 7) (zd (i := .iload 7) (n := 2) (by decide +kernel)) rfl <|
  bb_iload_n (n := 1) (i := 1) (zd (i := .iload_n 1) (n := 1) (by decide +kernel)) rfl rfl <|
  (fun lv hl => q_icmp_ge (off := 26) (tgt := 117) (zd (i := .if_icmp .ge (26)) (n := 3) (by decide +kernel)) (by decide) (fun h => (kt h) lv hl) (fun h => (kf h) lv hl))
theorem w_X8_pitchUmbrellas_94 {Q : qQ} {I : qMI} {L : qML} {R : qMR} {a1 : Int32} {a2 : Int32} {a3 : Int32} {a4 : Int32} {a5 : Int32} {a6 : Int32} {a7 : Int32} (h1 : R 0 8 = some 255) (h2 : R 0 10 = some 257) (h3 : vp_in a7 3) (h4 : vp_in (I 257 a7.toNatClampNeg) 20) (k : wkB l G (d + 1) n_X8_pitchUmbrellas Q 88 [.ref 0, .int a1, .int a2, .int a3, .int a4, .int a5, .int (a6 ||| (I 255 (I 257 a7.toNatClampNeg).toNatClampNeg)), .int (a7 + 1)] [] I L R) : wkB l G (d + 1) n_X8_pitchUmbrellas Q 94 [.ref 0, .int a1, .int a2, .int a3, .int a4, .int a5, .int a6, .int a7] [] I L R :=
  bb_iload (i := 6) (zd (i := .iload 6) (n := 2) (by decide +kernel)) rfl <|
  bb_aload_n (n := 0) (i := 0) (zd (i := .aload_n 0) (n := 1) (by decide +kernel)) rfl rfl <|
  bb_getr (k := 0) (ci := 8) (j := 8) (idx := 55) (a := 255) (zd (i := .getfield 55) (n := 3) (by decide +kernel)) (by decide +kernel) (by decide +kernel) (by decide +kernel) (by decide +kernel) rfl g460 h1 <|
  bb_aload_n (n := 0) (i := 0) (zd (i := .aload_n 0) (n := 1) (by decide +kernel)) rfl rfl <|
  bb_getr (k := 0) (ci := 8) (j := 10) (idx := 62) (a := 257) (zd (i := .getfield 62) (n := 3) (by decide +kernel)) (by decide +kernel) (by decide +kernel) (by decide +kernel) (by decide +kernel) rfl g462 h2 <|
  bb_iload (i := 7) (zd (i := .iload 7) (n := 2) (by decide +kernel)) rfl <|
  bb_lift (fun _ => q_iald (k := 257) (zd (i := .iaload) (n := 1) (by decide +kernel)) (by decide +kernel) (by decide +kernel) h3) <|
  bb_lift (fun _ => q_iald (k := 255) (zd (i := .iaload) (n := 1) (by decide +kernel)) (by decide +kernel) (by decide +kernel) h4) <|
  bb_lift (fun _ => q_ior (zd (i := .ior) (n := 1) (by decide +kernel))) <|
  bb_istore (i := 6) (zd (i := .istore 6) (n := 2) (by decide +kernel)) (by decide +kernel) (wkNl_i rfl) <|
  bb_iinc (i := 7) (n := 1) (zd (i := .iinc 7 (1)) (n := 3) (by decide +kernel)) rfl rfl (by decide +kernel) (wkNl_i rfl) <|
  bb_lift (fun _ => q_goto (off := -26) (tgt := 88) (zd (i := .goto (-26)) (n := 3) (by decide +kernel)) (by decide)) k
theorem w_X8_pitchUmbrellas_117 {Q : qQ} {I : qMI} {L : qML} {R : qMR} {a1 : Int32} {a2 : Int32} {a3 : Int32} {a4 : Int32} {a5 : Int32} {a6 : Int32} {a7 : Int32} {P : Int32 → qMI → qML → qMR → Prop} (hc : wkCi l G d n_J6_bitCount_0f7a4 [.int a6] I L R P) (kk : ∀ y I' L' R', P y I' L' R' → wkB l G (d + 1) n_X8_pitchUmbrellas Q 122 [.ref 0, .int a1, .int a2, .int a3, .int a4, .int a5, .int a6, .int a7] [.int y] I' L' R') : wkB l G (d + 1) n_X8_pitchUmbrellas Q 117 [.ref 0, .int a1, .int a2, .int a3, .int a4, .int a5, .int a6, .int a7] [] I L R :=
  bb_iload (i := 6) (zd (i := .iload 6) (n := 2) (by decide +kernel)) rfl <|
  bb_callS (idx := 264) (N := n_J6_bitCount_0f7a4) (As := [.int a6]) (st := []) (zd (i := .invokestatic 264) (n := 3) (by decide +kernel)) to_J6_bitCount_0f7a4 g970 g971 (Nat.le_of_ble_eq_true rfl) rfl rfl hc (fun r I' L' R' hq => by obtain ⟨y, rfl, hp⟩ := hq; exact kk y I' L' R' hp)
theorem w_X8_pitchUmbrellas_122 {Q : qQ} {I : qMI} {L : qML} {R : qMR} {a1 : Int32} {a2 : Int32} {a3 : Int32} {a4 : Int32} {a5 : Int32} {a6 : Int32} {a7 : Int32} {s0 : Int32} (kt : s0 ≤ a3 → wkB l G (d + 1) n_X8_pitchUmbrellas Q 146 [.ref 0, .int a1, .int a2, .int a3, .int a4, .int a5, .int a6, .int a7] [] I L R) (kf : ¬ s0 ≤ a3 → wkB l G (d + 1) n_X8_pitchUmbrellas Q 126 [.ref 0, .int a1, .int a2, .int a3, .int a4, .int a5, .int a6, .int a7] [] I L R) : wkB l G (d + 1) n_X8_pitchUmbrellas Q 122 [.ref 0, .int a1, .int a2, .int a3, .int a4, .int a5, .int a6, .int a7] [.int s0] I L R :=
  bb_iload_n (n := 3) (i := 3) (zd (i := .iload_n 3) (n := 1) (by decide +kernel)) rfl rfl <|
  (fun lv hl => q_icmp_le (off := 23) (tgt := 146) (zd (i := .if_icmp .le (23)) (n := 3) (by decide +kernel)) (by decide) (fun h => (kt h) lv hl) (fun h => (kf h) lv hl))
theorem w_X8_pitchUmbrellas_126 {Q : qQ} {I : qMI} {L : qML} {R : qMR} {a1 : Int32} {a2 : Int32} {a3 : Int32} {a4 : Int32} {a5 : Int32} {a6 : Int32} {a7 : Int32} {P : Int32 → qMI → qML → qMR → Prop} (hc : wkCi l G d n_J6_bitCount_0f7a4 [.int a6] I L R P) (kk : ∀ y I' L' R', P y I' L' R' → wkB l G (d + 1) n_X8_pitchUmbrellas Q 131 [.ref 0, .int a1, .int a2, .int a3, .int a4, .int a5, .int a6, .int a7] [.int y] I' L' R') : wkB l G (d + 1) n_X8_pitchUmbrellas Q 126 [.ref 0, .int a1, .int a2, .int a3, .int a4, .int a5, .int a6, .int a7] [] I L R :=
  bb_iload (i := 6) (zd (i := .iload 6) (n := 2) (by decide +kernel)) rfl <|
  bb_callS (idx := 264) (N := n_J6_bitCount_0f7a4) (As := [.int a6]) (st := []) (zd (i := .invokestatic 264) (n := 3) (by decide +kernel)) to_J6_bitCount_0f7a4 g970 g971 (Nat.le_of_ble_eq_true rfl) rfl rfl hc (fun r I' L' R' hq => by obtain ⟨y, rfl, hp⟩ := hq; exact kk y I' L' R' hp)
theorem w_X8_pitchUmbrellas_131 {Q : qQ} {I : qMI} {L : qML} {R : qMR} {a1 : Int32} {a2 : Int32} {a3 : Int32} {a4 : Int32} {a5 : Int32} {a6 : Int32} {a7 : Int32} {s0 : Int32} (h1 : R 0 10 = some 257) (h2 : R 0 11 = some 258) (h3 : ¬ a1 < 0) (h4 : (0 : Int32).toNatClampNeg + a1.toNatClampNeg ≤ (qSh 257).2) (h5 : (0 : Int32).toNatClampNeg + a1.toNatClampNeg ≤ (qSh 258).2) (k : wkB l G (d + 1) n_X8_pitchUmbrellas Q 146 [.ref 0, .int a1, .int a2, .int s0, .int a4, .int a5, .int a6, .int a7] [] (qUpF I 258 (va_cpy (I 257) (I 258) (0 : Int32).toNatClampNeg (0 : Int32).toNatClampNeg (a1 : Int32).toNatClampNeg)) L R) : wkB l G (d + 1) n_X8_pitchUmbrellas Q 131 [.ref 0, .int a1, .int a2, .int a3, .int a4, .int a5, .int a6, .int a7] [.int s0] I L R :=
  bb_istore_n (n := 3) (i := 3) (zd (i := .istore_n 3) (n := 1) (by decide +kernel)) rfl (by decide +kernel) (wkNl_i rfl) <|
  bb_aload_n (n := 0) (i := 0) (zd (i := .aload_n 0) (n := 1) (by decide +kernel)) rfl rfl <|
  bb_getr (k := 0) (ci := 8) (j := 10) (idx := 62) (a := 257) (zd (i := .getfield 62) (n := 3) (by decide +kernel)) (by decide +kernel) (by decide +kernel) (by decide +kernel) (by decide +kernel) rfl g462 h1 <|
  bb_lift (fun _ => q_iconst (n := 0) (zd (i := .iconst (0)) (n := 1) (by decide +kernel)) rfl) <|
  bb_aload_n (n := 0) (i := 0) (zd (i := .aload_n 0) (n := 1) (by decide +kernel)) rfl rfl <|
  bb_getr (k := 0) (ci := 8) (j := 11) (idx := 65) (a := 258) (zd (i := .getfield 65) (n := 3) (by decide +kernel)) (by decide +kernel) (by decide +kernel) (by decide +kernel) (by decide +kernel) rfl g463 h2 <|
  bb_lift (fun _ => q_iconst (n := 0) (zd (i := .iconst (0)) (n := 1) (by decide +kernel)) rfl) <|
  bb_iload_n (n := 1) (i := 1) (zd (i := .iload_n 1) (n := 1) (by decide +kernel)) rfl rfl <|
  bb_lift (fun _ => q_copy (idx := 269) (a0 := 257) (a1 := 258) (sp := 0) (dp := 0) (n := a1) (zd (i := .invokestatic 269) (n := 3) (by decide +kernel)) g976 g846 g845 g113 (by decide +kernel) (by decide +kernel) (by decide +kernel) (by decide +kernel) (by decide) (by decide) h3 h4 h5 (Nat.le_of_ble_eq_true rfl)) <|
  k
theorem w_X8_pitchUmbrellas_146 {Q : qQ} {I : qMI} {L : qML} {R : qMR} {a1 : Int32} {a2 : Int32} {a3 : Int32} {a4 : Int32} {a5 : Int32} {a6 : Int32} {a7 : Int32} {P : Int32 → qMI → qML → qMR → Prop} (hc : wkCi l G d n_X8_nextPitch [.ref 0, .int a1] I L R P) (kk : ∀ y I' L' R', P y I' L' R' → wkB l G (d + 1) n_X8_pitchUmbrellas Q 151 [.ref 0, .int a1, .int a2, .int a3, .int a4, .int a5, .int a6, .int a7] [.int y] I' L' R') : wkB l G (d + 1) n_X8_pitchUmbrellas Q 146 [.ref 0, .int a1, .int a2, .int a3, .int a4, .int a5, .int a6, .int a7] [] I L R :=
  bb_aload_n (n := 0) (i := 0) (zd (i := .aload_n 0) (n := 1) (by decide +kernel)) rfl rfl <|
  bb_iload_n (n := 1) (i := 1) (zd (i := .iload_n 1) (n := 1) (by decide +kernel)) rfl rfl <|
  bb_callV (idx := 275) (k := 0) (ci := 8) (N := n_X8_nextPitch) (As := [.int a1]) (st := []) (zd (i := .invokevirtual 275) (n := 3) (by decide +kernel)) to_X8_nextPitch g977 g979 g34 (Nat.le_of_ble_eq_true rfl) (by decide +kernel) (by decide +kernel) (by decide +kernel) rfl rfl rfl hc (fun r I' L' R' hq => by obtain ⟨y, rfl, hp⟩ := hq; exact kk y I' L' R' hp)
theorem w_X8_pitchUmbrellas_151 {Q : qQ} {I : qMI} {L : qML} {R : qMR} {a1 : Int32} {a2 : Int32} {a3 : Int32} {a4 : Int32} {a5 : Int32} {a6 : Int32} {a7 : Int32} {s0 : Int32} (k : wkB l G (d + 1) n_X8_pitchUmbrellas Q 69 [.ref 0, .int a1, .int a2, .int a3, .int s0, .int (a5 + 1), wkU, wkU] [] I L R) : wkB l G (d + 1) n_X8_pitchUmbrellas Q 151 [.ref 0, .int a1, .int a2, .int a3, .int a4, .int a5, .int a6, .int a7] [.int s0] I L R :=
  bb_istore (i := 4) (zd (i := .istore 4) (n := 2) (by decide +kernel)) (by decide +kernel) (wkNl_i rfl) <|
  bb_iinc (i := 5) (n := 1) (zd (i := .iinc 5 (1)) (n := 3) (by decide +kernel)) rfl rfl (by decide +kernel) (wkNl_i rfl) <|
  bb_lift (fun _ => q_goto (off := -87) (tgt := 69) (zd (i := .goto (-87)) (n := 3) (by decide +kernel)) (by decide)) (wkB_le (vs := [.ref 0, .int a1, .int a2, .int a3, .int s0, .int (a5 + 1), wkU, wkU]) (ws := [.ref 0, .int a1, .int a2, .int a3, .int s0, .int (a5 + 1), .int a6, .int a7]) ⟨Or.inr rfl, Or.inr rfl, Or.inr rfl, Or.inr rfl, Or.inr rfl, Or.inr rfl, Or.inl rfl, Or.inl rfl, trivial⟩ (k))
theorem w_X8_pitchUmbrellas_159 {Q : qQ} {I : qMI} {L : qML} {R : qMR} {a1 : Int32} {a2 : Int32} {a3 : Int32} {a4 : Int32} {a5 : Int32} (hQ : Q (some (.int a3)) 336 I L R) : wkB l G (d + 1) n_X8_pitchUmbrellas Q 159 [.ref 0, .int a1, .int a2, .int a3, .int a4, .int a5, wkU, wkU] [] I L R :=
  bb_iload_n (n := 3) (i := 3) (zd (i := .iload_n 3) (n := 1) (by decide +kernel)) rfl rfl <|
  (fun lv hl => q_iret (zd (i := .ireturn) (n := 1) (by decide +kernel)) rfl rfl (Nat.le_refl _) (Nat.le_refl _) hQ)
theorem w_X8_nextPitch_0 {Q : qQ} {I : qMI} {L : qML} {R : qMR} {a1 : Int32} (k : wkB l G (d + 1) n_X8_nextPitch Q 4 [.ref 0, .int a1, .int (a1 - 1), wkU] [] I L R) : wkB l G (d + 1) n_X8_nextPitch Q 0 [.ref 0, .int a1, wkU, wkU] [] I L R :=
  bb_iload_n (n := 1) (i := 1) (zd (i := .iload_n 1) (n := 1) (by decide +kernel)) rfl rfl <|
  bb_lift (fun _ => q_iconst (n := 1) (zd (i := .iconst (1)) (n := 1) (by decide +kernel)) rfl) <|
  bb_lift (fun _ => q_isub (zd (i := .isub) (n := 1) (by decide +kernel))) <|
  bb_istore_n (n := 2) (i := 2) (zd (i := .istore_n 2) (n := 1) (by decide +kernel)) rfl (by decide +kernel) (wkNl_i rfl) <|
  k
theorem w_X8_nextPitch_4 {Q : qQ} {I : qMI} {L : qML} {R : qMR} {a1 : Int32} {a2 : Int32} (kt : a2 < 0 → wkB l G (d + 1) n_X8_nextPitch Q 72 [.ref 0, .int a1, .int a2, wkU] [] I L R) (kf : ¬ a2 < 0 → wkB l G (d + 1) n_X8_nextPitch Q 8 [.ref 0, .int a1, .int a2, wkU] [] I L R) : wkB l G (d + 1) n_X8_nextPitch Q 4 [.ref 0, .int a1, .int a2, wkU] [] I L R :=
  bb_iload_n (n := 2) (i := 2) (zd (i := .iload_n 2) (n := 1) (by decide +kernel)) rfl rfl <|
  (fun lv hl => q_if_lt (off := 67) (tgt := 72) (zd (i := .ifCond .lt (67)) (n := 3) (by decide +kernel)) (by decide) (fun h => (kt h) lv hl) (fun h => (kf h) lv hl))
theorem w_X8_nextPitch_8 {Q : qQ} {I : qMI} {L : qML} {R : qMR} {a1 : Int32} {a2 : Int32} (h1 : R 0 10 = some 257) (h2 : vp_in a2 3) (kt : ((20 - a1) + a2) ≤ (I 257 a2.toNatClampNeg) → wkB l G (d + 1) n_X8_nextPitch Q 66 [.ref 0, .int a1, .int a2, wkU] [] I L R) (kf : ¬ ((20 - a1) + a2) ≤ (I 257 a2.toNatClampNeg) → wkB l G (d + 1) n_X8_nextPitch Q 23 [.ref 0, .int a1, .int a2, wkU] [] I L R) : wkB l G (d + 1) n_X8_nextPitch Q 8 [.ref 0, .int a1, .int a2, wkU] [] I L R :=
  bb_aload_n (n := 0) (i := 0) (zd (i := .aload_n 0) (n := 1) (by decide +kernel)) rfl rfl <|
  bb_getr (k := 0) (ci := 8) (j := 10) (idx := 62) (a := 257) (zd (i := .getfield 62) (n := 3) (by decide +kernel)) (by decide +kernel) (by decide +kernel) (by decide +kernel) (by decide +kernel) rfl g462 h1 <|
  bb_iload_n (n := 2) (i := 2) (zd (i := .iload_n 2) (n := 1) (by decide +kernel)) rfl rfl <|
  bb_lift (fun _ => q_iald (k := 257) (zd (i := .iaload) (n := 1) (by decide +kernel)) (by decide +kernel) (by decide +kernel) h2) <|
  bb_lift (fun _ => q_bipush (n := 20) (zd (i := .bipush (20)) (n := 2) (by decide +kernel)) rfl) <|
  bb_iload_n (n := 1) (i := 1) (zd (i := .iload_n 1) (n := 1) (by decide +kernel)) rfl rfl <|
  bb_lift (fun _ => q_isub (zd (i := .isub) (n := 1) (by decide +kernel))) <|
  bb_iload_n (n := 2) (i := 2) (zd (i := .iload_n 2) (n := 1) (by decide +kernel)) rfl rfl <|
  bb_lift (fun _ => q_iadd (zd (i := .iadd) (n := 1) (by decide +kernel))) <|
  (fun lv hl => q_icmp_ge (off := 46) (tgt := 66) (zd (i := .if_icmp .ge (46)) (n := 3) (by decide +kernel)) (by decide) (fun h => (kt h) lv hl) (fun h => (kf h) lv hl))
theorem w_X8_nextPitch_23 {Q : qQ} {I : qMI} {L : qML} {R : qMR} {a1 : Int32} {a2 : Int32} (h1 : R 0 10 = some 257) (h2 : vp_in a2 3) (h3 : vp_in a2 3) (k : wkB l G (d + 1) n_X8_nextPitch Q 37 [.ref 0, .int a1, .int a2, .int (a2 + 1)] [] (qUp I 257 a2.toNatClampNeg ((I 257 a2.toNatClampNeg) + 1)) L R) : wkB l G (d + 1) n_X8_nextPitch Q 23 [.ref 0, .int a1, .int a2, wkU] [] I L R :=
  bb_aload_n (n := 0) (i := 0) (zd (i := .aload_n 0) (n := 1) (by decide +kernel)) rfl rfl <|
  bb_getr (k := 0) (ci := 8) (j := 10) (idx := 62) (a := 257) (zd (i := .getfield 62) (n := 3) (by decide +kernel)) (by decide +kernel) (by decide +kernel) (by decide +kernel) (by decide +kernel) rfl g462 h1 <|
  bb_iload_n (n := 2) (i := 2) (zd (i := .iload_n 2) (n := 1) (by decide +kernel)) rfl rfl <|
  bb_lift (fun _ => q_dup2 (zd (i := .dup2) (n := 1) (by decide +kernel)) rfl rfl) <|
  bb_lift (fun _ => q_iald (k := 257) (zd (i := .iaload) (n := 1) (by decide +kernel)) (by decide +kernel) (by decide +kernel) h2) <|
  bb_lift (fun _ => q_iconst (n := 1) (zd (i := .iconst (1)) (n := 1) (by decide +kernel)) rfl) <|
  bb_lift (fun _ => q_iadd (zd (i := .iadd) (n := 1) (by decide +kernel))) <|
  bb_lift (fun _ => q_iast (k := 257) (zd (i := .iastore) (n := 1) (by decide +kernel)) (by decide +kernel) (by decide +kernel) h3) <|
  bb_iload_n (n := 2) (i := 2) (zd (i := .iload_n 2) (n := 1) (by decide +kernel)) rfl rfl <|
  bb_lift (fun _ => q_iconst (n := 1) (zd (i := .iconst (1)) (n := 1) (by decide +kernel)) rfl) <|
  bb_lift (fun _ => q_iadd (zd (i := .iadd) (n := 1) (by decide +kernel))) <|
  bb_istore_n (n := 3) (i := 3) (zd (i := .istore_n 3) (n := 1) (by decide +kernel)) rfl (by decide +kernel) (wkNl_i rfl) <|
  k
theorem w_X8_nextPitch_37 {Q : qQ} {I : qMI} {L : qML} {R : qMR} {a1 : Int32} {a2 : Int32} {a3 : Int32} (kt : a1 ≤ a3 → wkB l G (d + 1) n_X8_nextPitch Q 64 [.ref 0, .int a1, .int a2, .int a3] [] I L R) (kf : ¬ a1 ≤ a3 → wkB l G (d + 1) n_X8_nextPitch Q 42 [.ref 0, .int a1, .int a2, .int a3] [] I L R) : wkB l G (d + 1) n_X8_nextPitch Q 37 [.ref 0, .int a1, .int a2, .int a3] [] I L R :=
  bb_iload_n (n := 3) (i := 3) (zd (i := .iload_n 3) (n := 1) (by decide +kernel)) rfl rfl <|
  bb_iload_n (n := 1) (i := 1) (zd (i := .iload_n 1) (n := 1) (by decide +kernel)) rfl rfl <|
  (fun lv hl => q_icmp_ge (off := 25) (tgt := 64) (zd (i := .if_icmp .ge (25)) (n := 3) (by decide +kernel)) (by decide) (fun h => (kt h) lv hl) (fun h => (kf h) lv hl))
theorem w_X8_nextPitch_42 {Q : qQ} {I : qMI} {L : qML} {R : qMR} {a1 : Int32} {a2 : Int32} {a3 : Int32} (h1 : R 0 10 = some 257) (h2 : R 0 10 = some 257) (h3 : vp_in (a3 - 1) 3) (h4 : vp_in a3 3) (k : wkB l G (d + 1) n_X8_nextPitch Q 37 [.ref 0, .int a1, .int a2, .int (a3 + 1)] [] (qUp I 257 a3.toNatClampNeg ((I 257 (a3 - 1).toNatClampNeg) + 1)) L R) : wkB l G (d + 1) n_X8_nextPitch Q 42 [.ref 0, .int a1, .int a2, .int a3] [] I L R :=
  bb_aload_n (n := 0) (i := 0) (zd (i := .aload_n 0) (n := 1) (by decide +kernel)) rfl rfl <|
  bb_getr (k := 0) (ci := 8) (j := 10) (idx := 62) (a := 257) (zd (i := .getfield 62) (n := 3) (by decide +kernel)) (by decide +kernel) (by decide +kernel) (by decide +kernel) (by decide +kernel) rfl g462 h1 <|
  bb_iload_n (n := 3) (i := 3) (zd (i := .iload_n 3) (n := 1) (by decide +kernel)) rfl rfl <|
  bb_aload_n (n := 0) (i := 0) (zd (i := .aload_n 0) (n := 1) (by decide +kernel)) rfl rfl <|
  bb_getr (k := 0) (ci := 8) (j := 10) (idx := 62) (a := 257) (zd (i := .getfield 62) (n := 3) (by decide +kernel)) (by decide +kernel) (by decide +kernel) (by decide +kernel) (by decide +kernel) rfl g462 h2 <|
  bb_iload_n (n := 3) (i := 3) (zd (i := .iload_n 3) (n := 1) (by decide +kernel)) rfl rfl <|
  bb_lift (fun _ => q_iconst (n := 1) (zd (i := .iconst (1)) (n := 1) (by decide +kernel)) rfl) <|
  bb_lift (fun _ => q_isub (zd (i := .isub) (n := 1) (by decide +kernel))) <|
  bb_lift (fun _ => q_iald (k := 257) (zd (i := .iaload) (n := 1) (by decide +kernel)) (by decide +kernel) (by decide +kernel) h3) <|
  bb_lift (fun _ => q_iconst (n := 1) (zd (i := .iconst (1)) (n := 1) (by decide +kernel)) rfl) <|
  bb_lift (fun _ => q_iadd (zd (i := .iadd) (n := 1) (by decide +kernel))) <|
  bb_lift (fun _ => q_iast (k := 257) (zd (i := .iastore) (n := 1) (by decide +kernel)) (by decide +kernel) (by decide +kernel) h4) <|
  bb_iinc (i := 3) (n := 1) (zd (i := .iinc 3 (1)) (n := 3) (by decide +kernel)) rfl rfl (by decide +kernel) (wkNl_i rfl) <|
  bb_lift (fun _ => q_goto (off := -24) (tgt := 37) (zd (i := .goto (-24)) (n := 3) (by decide +kernel)) (by decide)) k
theorem w_X8_nextPitch_64 {Q : qQ} {I : qMI} {L : qML} {R : qMR} {a1 : Int32} {a2 : Int32} {a3 : Int32} (hQ : Q (some (.int 1)) 336 I L R) : wkB l G (d + 1) n_X8_nextPitch Q 64 [.ref 0, .int a1, .int a2, .int a3] [] I L R :=
  bb_lift (fun _ => q_iconst (n := 1) (zd (i := .iconst (1)) (n := 1) (by decide +kernel)) rfl) <|
  (fun lv hl => q_iret (zd (i := .ireturn) (n := 1) (by decide +kernel)) rfl rfl (Nat.le_refl _) (Nat.le_refl _) hQ)
theorem w_X8_nextPitch_66 {Q : qQ} {I : qMI} {L : qML} {R : qMR} {a1 : Int32} {a2 : Int32} (k : wkB l G (d + 1) n_X8_nextPitch Q 4 [.ref 0, .int a1, .int (a2 + (-1)), wkU] [] I L R) : wkB l G (d + 1) n_X8_nextPitch Q 66 [.ref 0, .int a1, .int a2, wkU] [] I L R :=
  bb_iinc (i := 2) (n := -1) (zd (i := .iinc 2 (-1)) (n := 3) (by decide +kernel)) rfl rfl (by decide +kernel) (wkNl_i rfl) <|
  bb_lift (fun _ => q_goto (off := -65) (tgt := 4) (zd (i := .goto (-65)) (n := 3) (by decide +kernel)) (by decide)) k
theorem w_X8_nextPitch_72 {Q : qQ} {I : qMI} {L : qML} {R : qMR} {a1 : Int32} {a2 : Int32} (hQ : Q (some (.int 0)) 336 I L R) : wkB l G (d + 1) n_X8_nextPitch Q 72 [.ref 0, .int a1, .int a2, wkU] [] I L R :=
  bb_lift (fun _ => q_iconst (n := 0) (zd (i := .iconst (0)) (n := 1) (by decide +kernel)) rfl) <|
  (fun lv hl => q_iret (zd (i := .ireturn) (n := 1) (by decide +kernel)) rfl rfl (Nat.le_refl _) (Nat.le_refl _) hQ)
end
