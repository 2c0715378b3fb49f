section
variable {l : Launch} {G : qG} {d : Nat}
theorem w_X5_putWord_0 {Q : qQ} {I : qMI} {L : qML} {R : qMR} {a1 : Int32} (k : wkB l G (d + 1) n_X5_putWord Q 3 [.ref 1, .int a1, .int 24] [] I L R) : wkB l G (d + 1) n_X5_putWord Q 0 [.ref 1, .int a1, wkU] [] I L R :=
  bb_lift (fun _ => q_bipush (n := 24) (zd (i := .bipush (24)) (n := 2) (by decide +kernel)) rfl) <|
  bb_istore_n (n := 2) (i := 2) (zd (i := .istore_n 2) (n := 1) (by decide +kernel)) rfl (by decide +kernel) (wkNl_i rfl) <|
  k
theorem w_X5_putWord_3 {Q : qQ} {I : qMI} {L : qML} {R : qMR} {a1 : Int32} {a2 : Int32} (kt : a2 < 0 → wkB l G (d + 1) n_X5_putWord Q 46 [.ref 1, .int a1, .int a2] [] I L R) (kf : ¬ a2 < 0 → wkB l G (d + 1) n_X5_putWord Q 7 [.ref 1, .int a1, .int a2] [] I L R) : wkB l G (d + 1) n_X5_putWord Q 3 [.ref 1, .int a1, .int a2] [] I L R :=
  bb_iload_n (n := 2) (i := 2) (zd (i := .iload_n 2) (n := 1) (by decide +kernel)) rfl rfl <|
  (fun lv hl => q_if_lt (off := 42) (tgt := 46) (zd (i := .ifCond .lt (42)) (n := 3) (by decide +kernel)) (by decide) (fun h => (kt h) lv hl) (fun h => (kf h) lv hl))
theorem w_X5_putWord_7 {Q : qQ} {I : qMI} {L : qML} {R : qMR} {a1 : Int32} {a2 : Int32} (kt : 2000 ≤ (I 1 1) → wkB l G (d + 1) n_X5_putWord Q 46 [.ref 1, .int a1, .int a2] [] I L R) (kf : ¬ 2000 ≤ (I 1 1) → wkB l G (d + 1) n_X5_putWord Q 17 [.ref 1, .int a1, .int a2] [] I L R) : wkB l G (d + 1) n_X5_putWord Q 7 [.ref 1, .int a1, .int a2] [] I L R :=
  bb_aload_n (n := 0) (i := 0) (zd (i := .aload_n 0) (n := 1) (by decide +kernel)) rfl rfl <|
  bb_geti (k := 1) (ci := 5) (j := 1) (idx := 15) (zd (i := .getfield 15) (n := 3) (by decide +kernel)) (by decide +kernel) (by decide +kernel) (by decide +kernel) (by decide +kernel) rfl g130 <|
  bb_lift (fun _ => q_sipush (n := 2000) (zd (i := .sipush (2000)) (n := 3) (by decide +kernel)) rfl) <|
  (fun lv hl => q_icmp_ge (off := 32) (tgt := 46) (zd (i := .if_icmp .ge (32)) (n := 3) (by decide +kernel)) (by decide) (fun h => (kt h) lv hl) (fun h => (kf h) lv hl))
theorem w_X5_putWord_17 {Q : qQ} {I : qMI} {L : qML} {R : qMR} {a1 : Int32} {a2 : Int32} (h1 : R 1 0 = some 2) (h2 : vp_in (I 1 1) 2000) (k : wkB l G (d + 1) n_X5_putWord Q 3 [.ref 1, .int a1, .int (a2 + (-8))] [] (qUp (qUp I 2 (I 1 1).toNatClampNeg (vp_nar .byte ((a1 >>> (a2 &&& 31)).toInt8.toInt32))) 1 1 (((qUp I 2 (I 1 1).toNatClampNeg (vp_nar .byte ((a1 >>> (a2 &&& 31)).toInt8.toInt32))) 1 1) + 1)) L R) : wkB l G (d + 1) n_X5_putWord Q 17 [.ref 1, .int a1, .int a2] [] I L R :=
  bb_aload_n (n := 0) (i := 0) (zd (i := .aload_n 0) (n := 1) (by decide +kernel)) rfl rfl <|
  bb_getr (k := 1) (ci := 5) (j := 0) (idx := 11) (a := 2) (zd (i := .getfield 11) (n := 3) (by decide +kernel)) (by decide +kernel) (by decide +kernel) (by decide +kernel) (by decide +kernel) rfl g129 h1 <|
  bb_aload_n (n := 0) (i := 0) (zd (i := .aload_n 0) (n := 1) (by decide +kernel)) rfl rfl <|
  bb_geti (k := 1) (ci := 5) (j := 1) (idx := 15) (zd (i := .getfield 15) (n := 3) (by decide +kernel)) (by decide +kernel) (by decide +kernel) (by decide +kernel) (by decide +kernel) rfl g130 <|
  bb_iload_n (n := 1) (i := 1) (zd (i := .iload_n 1) (n := 1) (by decide +kernel)) rfl rfl <|
  bb_iload_n (n := 2) (i := 2) (zd (i := .iload_n 2) (n := 1) (by decide +kernel)) rfl rfl <|
  bb_lift (fun _ => q_ishr (zd (i := .ishr) (n := 1) (by decide +kernel))) <|
  bb_lift (fun _ => q_i2b (zd (i := .i2b) (n := 1) (by decide +kernel))) <|
  bb_lift (fun _ => q_bast (k := 2) (zd (i := .bastore) (n := 1) (by decide +kernel)) (by decide +kernel) (by decide +kernel) h2) <|
  bb_aload_n (n := 0) (i := 0) (zd (i := .aload_n 0) (n := 1) (by decide +kernel)) rfl rfl <|
  bb_lift (fun _ => q_dup (zd (i := .dup) (n := 1) (by decide +kernel)) rfl) <|
  bb_geti (k := 1) (ci := 5) (j := 1) (idx := 15) (zd (i := .getfield 15) (n := 3) (by decide +kernel)) (by decide +kernel) (by decide +kernel) (by decide +kernel) (by decide +kernel) rfl g130 <|
  bb_lift (fun _ => q_iconst (n := 1) (zd (i := .iconst (1)) (n := 1) (by decide +kernel)) rfl) <|
  bb_lift (fun _ => q_iadd (zd (i := .iadd) (n := 1) (by decide +kernel))) <|
  bb_puti (k := 1) (ci := 5) (j := 1) (idx := 15) (zd (i := .putfield 15) (n := 3) (by decide +kernel)) (by decide +kernel) (by decide +kernel) (by decide +kernel) (by decide +kernel) g130 rfl rfl <|
  bb_iinc (i := 2) (n := -8) (zd (i := .iinc 2 (-8)) (n := 3) (by decide +kernel)) rfl rfl (by decide +kernel) (wkNl_i rfl) <|
  bb_lift (fun _ => q_goto (off := -40) (tgt := 3) (zd (i := .goto (-40)) (n := 3) (by decide +kernel)) (by decide)) k
theorem w_X5_putWord_46 {Q : qQ} {I : qMI} {L : qML} {R : qMR} {a1 : Int32} {a2 : Int32} (hQ : Q none 336 I L R) : wkB l G (d + 1) n_X5_putWord Q 46 [.ref 1, .int a1, .int a2] [] I L R :=
  (fun lv hl => q_vret (zd (i := .return_) (n := 1) (by decide +kernel)) rfl (Nat.le_refl _) (Nat.le_refl _) hQ)
theorem w_X5_hasRoom_0 {Q : qQ} {I : qMI} {L : qML} {R : qMR} {a1 : Int32} (kt : 2000 < ((I 1 1) + a1) → wkB l G (d + 1) n_X5_hasRoom Q 16 [.ref 1, .int a1] [] I L R) (kf : ¬ 2000 < ((I 1 1) + a1) → wkB l G (d + 1) n_X5_hasRoom Q 12 [.ref 1, .int a1] [] I L R) : wkB l G (d + 1) n_X5_hasRoom Q 0 [.ref 1, .int a1] [] I L R :=
  bb_aload_n (n := 0) (i := 0) (zd (i := .aload_n 0) (n := 1) (by decide +kernel)) rfl rfl <|
  bb_geti (k := 1) (ci := 5) (j := 1) (idx := 15) (zd (i := .getfield 15) (n := 3) (by decide +kernel)) (by decide +kernel) (by decide +kernel) (by decide +kernel) (by decide +kernel) rfl g130 <|
  bb_iload_n (n := 1) (i := 1) (zd (i := .iload_n 1) (n := 1) (by decide +kernel)) rfl rfl <|
  bb_lift (fun _ => q_iadd (zd (i := .iadd) (n := 1) (by decide +kernel))) <|
  bb_lift (fun _ => q_sipush (n := 2000) (zd (i := .sipush (2000)) (n := 3) (by decide +kernel)) rfl) <|
  (fun lv hl => q_icmp_gt (off := 7) (tgt := 16) (zd (i := .if_icmp .gt (7)) (n := 3) (by decide +kernel)) (by decide) (fun h => (kt h) lv hl) (fun h => (kf h) lv hl))
theorem w_X5_hasRoom_12 {Q : qQ} {I : qMI} {L : qML} {R : qMR} {a1 : Int32} (k : wkB l G (d + 1) n_X5_hasRoom Q 17 [.ref 1, .int a1] [.int 1] I L R) : wkB l G (d + 1) n_X5_hasRoom Q 12 [.ref 1, .int a1] [] I L R :=
  bb_lift (fun _ => q_iconst (n := 1) (zd (i := .iconst (1)) (n := 1) (by decide +kernel)) rfl) <|
  bb_lift (fun _ => q_goto (off := 4) (tgt := 17) (zd (i := .goto (4)) (n := 3) (by decide +kernel)) (by decide)) k
theorem w_X5_hasRoom_16 {Q : qQ} {I : qMI} {L : qML} {R : qMR} {a1 : Int32} (k : wkB l G (d + 1) n_X5_hasRoom Q 17 [.ref 1, .int a1] [.int 0] I L R) : wkB l G (d + 1) n_X5_hasRoom Q 16 [.ref 1, .int a1] [] I L R :=
  bb_lift (fun _ => q_iconst (n := 0) (zd (i := .iconst (0)) (n := 1) (by decide +kernel)) rfl) <|
  k
theorem w_X5_hasRoom_17 {Q : qQ} {I : qMI} {L : qML} {R : qMR} {a1 : Int32} {s0 : Int32} (hQ : Q (some (.int s0)) 336 I L R) (h1 : s0 = 0 ∨ s0 = 1) : wkB l G (d + 1) n_X5_hasRoom Q 17 [.ref 1, .int a1] [.int s0] I L R :=
  (fun lv hl => q_iret (zd (i := .ireturn) (n := 1) (by decide +kernel)) rfl (by rcases h1 with e | e <;> rw [e] <;> rfl) (Nat.le_refl _) (Nat.le_refl _) hQ)
theorem w_X8_feed_0 {Q : qQ} {I : qMI} {L : qML} {R : qMR} {a1 : Int32} {a2 : Int32} {a3 : Int32} {a4 : Int32} {a5 : Int32} (h1 : R 0 0 = some 1) {P : Int32 → qMI → qML → qMR → Prop} (hc : wkCi l G d n_X5_hasRoom [.ref 1, .int 20] I L R P) (kk : ∀ y I' L' R', P y I' L' R' → wkB l G (d + 1) n_X8_feed Q 9 [.ref 0, .int a1, .int a2, .int a3, .int a4, .int a5] [.int y] I' L' R') : wkB l G (d + 1) n_X8_feed Q 0 [.ref 0, .int a1, .int a2, .int a3, .int a4, .int a5] [] I L R :=
  bb_aload_n (n := 0) (i := 0) (zd (i := .aload_n 0) (n := 1) (by decide +kernel)) rfl rfl <|
  bb_getr (k := 0) (ci := 8) (j := 0) (idx := 12) (a := 1) (zd (i := .getfield 12) (n := 3) (by decide +kernel)) (by decide +kernel) (by decide +kernel) (by decide +kernel) (by decide +kernel) rfl g452 h1 <|
  bb_lift (fun _ => q_bipush (n := 20) (zd (i := .bipush (20)) (n := 2) (by decide +kernel)) rfl) <|
  bb_callV (idx := 79) (k := 1) (ci := 5) (N := n_X5_hasRoom) (As := [.int 20]) (st := []) (zd (i := .invokevirtual 79) (n := 3) (by decide +kernel)) to_X5_hasRoom g499 g500 g501 (Nat.le_of_ble_eq_true rfl) (by decide +kernel) (by decide +kernel) (by decide +kernel) rfl rfl rfl hc (fun r I' L' R' hq => by obtain ⟨y, rfl, hp⟩ := hq; exact kk y I' L' R' hp)
theorem w_X8_feed_9 {Q : qQ} {I : qMI} {L : qML} {R : qMR} {a1 : Int32} {a2 : Int32} {a3 : Int32} {a4 : Int32} {a5 : Int32} {s0 : Int32} (kt : ¬ s0 = 0 → wkB l G (d + 1) n_X8_feed Q 14 [.ref 0, .int a1, .int a2, .int a3, .int a4, .int a5] [] I L R) (kf : s0 = 0 → wkB l G (d + 1) n_X8_feed Q 12 [.ref 0, .int a1, .int a2, .int a3, .int a4, .int a5] [] I L R) : wkB l G (d + 1) n_X8_feed Q 9 [.ref 0, .int a1, .int a2, .int a3, .int a4, .int a5] [.int s0] I L R :=
  (fun lv hl => q_if_ne (off := 5) (tgt := 14) (zd (i := .ifCond .ne (5)) (n := 3) (by decide +kernel)) (by decide) (fun h => (kt h) lv hl) (fun h => (kf h) lv hl))
theorem w_X8_feed_12 {Q : qQ} {I : qMI} {L : qML} {R : qMR} {a1 : Int32} {a2 : Int32} {a3 : Int32} {a4 : Int32} {a5 : Int32} (hQ : Q (some (.int (-1))) 336 I L R) : wkB l G (d + 1) n_X8_feed Q 12 [.ref 0, .int a1, .int a2, .int a3, .int a4, .int a5] [] I L R :=
  bb_lift (fun _ => q_iconst (n := -1) (zd (i := .iconst (-1)) (n := 1) (by decide +kernel)) rfl) <|
  (fun lv hl => q_iret (zd (i := .ireturn) (n := 1) (by decide +kernel)) rfl rfl (Nat.le_refl _) (Nat.le_refl _) hQ)
theorem w_X8_feed_14 {Q : qQ} {I : qMI} {L : qML} {R : qMR} {a1 : Int32} {a2 : Int32} {a3 : Int32} {a4 : Int32} {a5 : Int32} (h1 : R 0 0 = some 1) {P : qMI → qML → qMR → Prop} (hc : wkCv l G d n_X5_putWord [.ref 1, .int a1] I L R P) (kk : ∀ I' L' R', P I' L' R' → wkB l G (d + 1) n_X8_feed Q 22 [.ref 0, .int a1, .int a2, .int a3, .int a4, .int a5] [] I' L' R') : wkB l G (d + 1) n_X8_feed Q 14 [.ref 0, .int a1, .int a2, .int a3, .int a4, .int a5] [] I L R :=
  bb_aload_n (n := 0) (i := 0) (zd (i := .aload_n 0) (n := 1) (by decide +kernel)) rfl rfl <|
  bb_getr (k := 0) (ci := 8) (j := 0) (idx := 12) (a := 1) (zd (i := .getfield 12) (n := 3) (by decide +kernel)) (by decide +kernel) (by decide +kernel) (by decide +kernel) (by decide +kernel) rfl g452 h1 <|
  bb_iload_n (n := 1) (i := 1) (zd (i := .iload_n 1) (n := 1) (by decide +kernel)) rfl rfl <|
  bb_callV (idx := 83) (k := 1) (ci := 5) (N := n_X5_putWord) (As := [.int a1]) (st := []) (zd (i := .invokevirtual 83) (n := 3) (by decide +kernel)) to_X5_putWord g503 g504 g505 (Nat.le_of_ble_eq_true rfl) (by decide +kernel) (by decide +kernel) (by decide +kernel) rfl rfl rfl hc (fun r I' L' R' hq => by obtain ⟨rfl, hp⟩ := hq; exact kk I' L' R' hp)
theorem w_X8_feed_22 {Q : qQ} {I : qMI} {L : qML} {R : qMR} {a1 : Int32} {a2 : Int32} {a3 : Int32} {a4 : Int32} {a5 : Int32} (h1 : R 0 0 = some 1) {P : qMI → qML → qMR → Prop} (hc : wkCv l G d n_X5_putWord [.ref 1, .int a2] I L R P) (kk : ∀ I' L' R', P I' L' R' → wkB l G (d + 1) n_X8_feed Q 30 [.ref 0, .int a1, .int a2, .int a3, .int a4, .int a5] [] I' L' R') : wkB l G (d + 1) n_X8_feed Q 22 [.ref 0, .int a1, .int a2, .int a3, .int a4, .int a5] [] I L R :=
  bb_aload_n (n := 0) (i := 0) (zd (i := .aload_n 0) (n := 1) (by decide +kernel)) rfl rfl <|
  bb_getr (k := 0) (ci := 8) (j := 0) (idx := 12) (a := 1) (zd (i := .getfield 12) (n := 3) (by decide +kernel)) (by decide +kernel) (by decide +kernel) (by decide +kernel) (by decide +kernel) rfl g452 h1 <|
  bb_iload_n (n := 2) (i := 2) (zd (i := .iload_n 2) (n := 1) (by decide +kernel)) rfl rfl <|
  bb_callV (idx := 83) (k := 1) (ci := 5) (N := n_X5_putWord) (As := [.int a2]) (st := []) (zd (i := .invokevirtual 83) (n := 3) (by decide +kernel)) to_X5_putWord g503 g504 g505 (Nat.le_of_ble_eq_true rfl) (by decide +kernel) (by decide +kernel) (by decide +kernel) rfl rfl rfl hc (fun r I' L' R' hq => by obtain ⟨rfl, hp⟩ := hq; exact kk I' L' R' hp)
theorem w_X8_feed_30 {Q : qQ} {I : qMI} {L : qML} {R : qMR} {a1 : Int32} {a2 : Int32} {a3 : Int32} {a4 : Int32} {a5 : Int32} (h1 : R 0 0 = some 1) {P : qMI → qML → qMR → Prop} (hc : wkCv l G d n_X5_putWord [.ref 1, .int a3] I L R P) (kk : ∀ I' L' R', P I' L' R' → wkB l G (d + 1) n_X8_feed Q 38 [.ref 0, .int a1, .int a2, .int a3, .int a4, .int a5] [] I' L' R') : wkB l G (d + 1) n_X8_feed Q 30 [.ref 0, .int a1, .int a2, .int a3, .int a4, .int a5] [] I L R :=
  bb_aload_n (n := 0) (i := 0) (zd (i := .aload_n 0) (n := 1) (by decide +kernel)) rfl rfl <|
  bb_getr (k := 0) (ci := 8) (j := 0) (idx := 12) (a := 1) (zd (i := .getfield 12) (n := 3) (by decide +kernel)) (by decide +kernel) (by decide +kernel) (by decide +kernel) (by decide +kernel) rfl g452 h1 <|
  bb_iload_n (n := 3) (i := 3) (zd (i := .iload_n 3) (n := 1) (by decide +kernel)) rfl rfl <|
  bb_callV (idx := 83) (k := 1) (ci := 5) (N := n_X5_putWord) (As := [.int a3]) (st := []) (zd (i := .invokevirtual 83) (n := 3) (by decide +kernel)) to_X5_putWord g503 g504 g505 (Nat.le_of_ble_eq_true rfl) (by decide +kernel) (by decide +kernel) (by decide +kernel) rfl rfl rfl hc (fun r I' L' R' hq => by obtain ⟨rfl, hp⟩ := hq; exact kk I' L' R' hp)
theorem w_X8_feed_38 {Q : qQ} {I : qMI} {L : qML} {R : qMR} {a1 : Int32} {a2 : Int32} {a3 : Int32} {a4 : Int32} {a5 : Int32} (h1 : R 0 0 = some 1) {P : qMI → qML → qMR → Prop} (hc : wkCv l G d n_X5_putWord [.ref 1, .int a4] I L R P) (kk : ∀ I' L' R', P I' L' R' → wkB l G (d + 1) n_X8_feed Q 47 [.ref 0, .int a1, .int a2, .int a3, .int a4, .int a5] [] I' L' R') : wkB l G (d + 1) n_X8_feed Q 38 [.ref 0, .int a1, .int a2, .int a3, .int a4, .int a5] [] I L R :=
  bb_aload_n (n := 0) (i := 0) (zd (i := .aload_n 0) (n := 1) (by decide +kernel)) rfl rfl <|
  bb_getr (k := 0) (ci := 8) (j := 0) (idx := 12) (a := 1) (zd (i := .getfield 12) (n := 3) (by decide +kernel)) (by decide +kernel) (by decide +kernel) (by decide +kernel) (by decide +kernel) rfl g452 h1 <|
  bb_iload (i := 4) (zd (i := .iload 4) (n := 2) (by decide +kernel)) rfl <|
  bb_callV (idx := 83) (k := 1) (ci := 5) (N := n_X5_putWord) (As := [.int a4]) (st := []) (zd (i := .invokevirtual 83) (n := 3) (by decide +kernel)) to_X5_putWord g503 g504 g505 (Nat.le_of_ble_eq_true rfl) (by decide +kernel) (by decide +kernel) (by decide +kernel) rfl rfl rfl hc (fun r I' L' R' hq => by obtain ⟨rfl, hp⟩ := hq; exact kk I' L' R' hp)
theorem w_X8_feed_47 {Q : qQ} {I : qMI} {L : qML} {R : qMR} {a1 : Int32} {a2 : Int32} {a3 : Int32} {a4 : Int32} {a5 : Int32} (h1 : R 0 0 = some 1) {P : qMI → qML → qMR → Prop} (hc : wkCv l G d n_X5_putWord [.ref 1, .int a5] I L R P) (kk : ∀ I' L' R', P I' L' R' → wkB l G (d + 1) n_X8_feed Q 56 [.ref 0, .int a1, .int a2, .int a3, .int a4, .int a5] [] I' L' R') : wkB l G (d + 1) n_X8_feed Q 47 [.ref 0, .int a1, .int a2, .int a3, .int a4, .int a5] [] I L R :=
  bb_aload_n (n := 0) (i := 0) (zd (i := .aload_n 0) (n := 1) (by decide +kernel)) rfl rfl <|
  bb_getr (k := 0) (ci := 8) (j := 0) (idx := 12) (a := 1) (zd (i := .getfield 12) (n := 3) (by decide +kernel)) (by decide +kernel) (by decide +kernel) (by decide +kernel) (by decide +kernel) rfl g452 h1 <|
  bb_iload (i := 5) (zd (i := .iload 5) (n := 2) (by decide +kernel)) rfl <|
  bb_callV (idx := 83) (k := 1) (ci := 5) (N := n_X5_putWord) (As := [.int a5]) (st := []) (zd (i := .invokevirtual 83) (n := 3) (by decide +kernel)) to_X5_putWord g503 g504 g505 (Nat.le_of_ble_eq_true rfl) (by decide +kernel) (by decide +kernel) (by decide +kernel) rfl rfl rfl hc (fun r I' L' R' hq => by obtain ⟨rfl, hp⟩ := hq; exact kk I' L' R' hp)
theorem w_X8_feed_56 {Q : qQ} {I : qMI} {L : qML} {R : qMR} {a1 : Int32} {a2 : Int32} {a3 : Int32} {a4 : Int32} {a5 : Int32} (h1 : R 0 0 = some 1) (hQ : Q (some (.int (I 1 1))) 336 I L R) : wkB l G (d + 1) n_X8_feed Q 56 [.ref 0, .int a1, .int a2, .int a3, .int a4, .int a5] [] I L R :=
  bb_aload_n (n := 0) (i := 0) (zd (i := .aload_n 0) (n := 1) (by decide +kernel)) rfl rfl <|
  bb_getr (k := 0) (ci := 8) (j := 0) (idx := 12) (a := 1) (zd (i := .getfield 12) (n := 3) (by decide +kernel)) (by decide +kernel) (by decide +kernel) (by decide +kernel) (by decide +kernel) rfl g452 h1 <|
  bb_geti (k := 1) (ci := 5) (j := 1) (idx := 87) (zd (i := .getfield 87) (n := 3) (by decide +kernel)) (by decide +kernel) (by decide +kernel) (by decide +kernel) (by decide +kernel) rfl g131 <|
  (fun lv hl => q_iret (zd (i := .ireturn) (n := 1) (by decide +kernel)) rfl rfl (Nat.le_refl _) (Nat.le_refl _) hQ)
theorem w_X8_back_0 {Q : qQ} {I : qMI} {L : qML} {R : qMR} {a1 : Int32} (h1 : R 0 0 = some 1) {P : Int32 → qMI → qML → qMR → Prop} (hc : wkCi l G d n_X5_drop [.ref 1, .int a1] I L R P) (kk : ∀ y I' L' R', P y I' L' R' → wkB l G (d + 1) n_X8_back Q 8 [.ref 0, .int a1] [.int y] I' L' R') : wkB l G (d + 1) n_X8_back Q 0 [.ref 0, .int a1] [] I L R :=
  bb_aload_n (n := 0) (i := 0) (zd (i := .aload_n 0) (n := 1) (by decide +kernel)) rfl rfl <|
  bb_getr (k := 0) (ci := 8) (j := 0) (idx := 12) (a := 1) (zd (i := .getfield 12) (n := 3) (by decide +kernel)) (by decide +kernel) (by decide +kernel) (by decide +kernel) (by decide +kernel) rfl g452 h1 <|
  bb_iload_n (n := 1) (i := 1) (zd (i := .iload_n 1) (n := 1) (by decide +kernel)) rfl rfl <|
  bb_callV (idx := 90) (k := 1) (ci := 5) (N := n_X5_drop) (As := [.int a1]) (st := []) (zd (i := .invokevirtual 90) (n := 3) (by decide +kernel)) to_X5_drop g511 g512 g513 (Nat.le_of_ble_eq_true rfl) (by decide +kernel) (by decide +kernel) (by decide +kernel) rfl rfl rfl hc (fun r I' L' R' hq => by obtain ⟨y, rfl, hp⟩ := hq; exact kk y I' L' R' hp)
theorem w_X8_back_8 {Q : qQ} {I : qMI} {L : qML} {R : qMR} {a1 : Int32} {s0 : Int32} (kt : s0 = 0 → wkB l G (d + 1) n_X8_back Q 21 [.ref 0, .int a1] [] I L R) (kf : ¬ s0 = 0 → wkB l G (d + 1) n_X8_back Q 11 [.ref 0, .int a1] [] I L R) : wkB l G (d + 1) n_X8_back Q 8 [.ref 0, .int a1] [.int s0] I L R :=
  (fun lv hl => q_if_eq (off := 13) (tgt := 21) (zd (i := .ifCond .eq (13)) (n := 3) (by decide +kernel)) (by decide) (fun h => (kt h) lv hl) (fun h => (kf h) lv hl))
theorem w_X8_back_11 {Q : qQ} {I : qMI} {L : qML} {R : qMR} {a1 : Int32} (h1 : R 0 0 = some 1) (k : wkB l G (d + 1) n_X8_back Q 22 [.ref 0, .int a1] [.int (I 1 1)] I L R) : wkB l G (d + 1) n_X8_back Q 11 [.ref 0, .int a1] [] I L R :=
  bb_aload_n (n := 0) (i := 0) (zd (i := .aload_n 0) (n := 1) (by decide +kernel)) rfl rfl <|
  bb_getr (k := 0) (ci := 8) (j := 0) (idx := 12) (a := 1) (zd (i := .getfield 12) (n := 3) (by decide +kernel)) (by decide +kernel) (by decide +kernel) (by decide +kernel) (by decide +kernel) rfl g452 h1 <|
  bb_geti (k := 1) (ci := 5) (j := 1) (idx := 87) (zd (i := .getfield 87) (n := 3) (by decide +kernel)) (by decide +kernel) (by decide +kernel) (by decide +kernel) (by decide +kernel) rfl g131 <|
  bb_lift (fun _ => q_goto (off := 4) (tgt := 22) (zd (i := .goto (4)) (n := 3) (by decide +kernel)) (by decide)) k
theorem w_X8_back_21 {Q : qQ} {I : qMI} {L : qML} {R : qMR} {a1 : Int32} (k : wkB l G (d + 1) n_X8_back Q 22 [.ref 0, .int a1] [.int (-1)] I L R) : wkB l G (d + 1) n_X8_back Q 21 [.ref 0, .int a1] [] I L R :=
  bb_lift (fun _ => q_iconst (n := -1) (zd (i := .iconst (-1)) (n := 1) (by decide +kernel)) rfl) <|
  k
theorem w_X8_back_22 {Q : qQ} {I : qMI} {L : qML} {R : qMR} {a1 : Int32} {s0 : Int32} (hQ : Q (some (.int s0)) 336 I L R) : wkB l G (d + 1) n_X8_back Q 22 [.ref 0, .int a1] [.int s0] I L R :=
  (fun lv hl => q_iret (zd (i := .ireturn) (n := 1) (by decide +kernel)) rfl rfl (Nat.le_refl _) (Nat.le_refl _) hQ)
end
/-! ===== the class's tape: how long it is ===== -/
def cTp (I I' : qMI) : Prop := (∀ k, k ≠ 1 → k ≠ 2 → I' k = I k) ∧ ∀ j, j ≠ 1 → I' 1 j = I 1 j
theorem cTp_rf (I : qMI) : cTp I I := ⟨fun _ _ _ => rfl, fun _ _ => rfl⟩
theorem cTp_tr {I J K : qMI} (h : cTp I J) (g : cTp J K) : cTp I K := ⟨fun k a b => (g.1 k a b).trans (h.1 k a b), fun j a => (g.2 j a).trans (h.2 j a)⟩
theorem cTp_up {I J : qMI} {k i : Nat} {x : Int32} (h : cTp I J) (hk : k = 2 ∨ (k = 1 ∧ i = 1)) : cTp I (qUp J k i x) := ⟨fun a h1 h2 => by rw [← h.1 a h1 h2]; exact funext fun j => qUp_ne (fun q => by omega), fun j hj => by rw [← h.2 j hj]; exact qUp_ne (fun q => by omega)⟩
section
variable {l : Launch} {G : qG} {d : Nat} {I : qMI} {L : qML} {R : qMR}
theorem cPut (hR : R 1 0 = some 2) {x : Int32} (h0 : 0 ≤ (I 1 1).toInt) (h1 : (I 1 1).toInt ≤ 1996) : wkCv l G (d + 1) n_X5_putWord [.ref 1, .int x] I L R (fun I' L' R' => R' = R ∧ L' = L ∧ cTp I I' ∧ (I' 1 1).toInt = (I 1 1).toInt + 4) := by
  have loop : ∀ (n : Nat) (a2 : Int32) (J : qMI), n ≤ 4 → a2.toInt = 8 * n - 8 → cTp I J → (J 1 1).toInt = (I 1 1).toInt + 4 - n → wkB l G (d + 1) n_X5_putWord (fun r t I' L' R' => t = 336 ∧ r = none ∧ R' = R ∧ L' = L ∧ cTp I I' ∧ (I' 1 1).toInt = (I 1 1).toInt + 4) 3 [.ref 1, .int x, .int a2] [] J L R := by
    intro n
    induction n with
    | zero =>
      intro a2 J _ h2 c s
      exact w_X5_putWord_3 (fun _ => w_X5_putWord_46 ⟨rfl, rfl, rfl, rfl, c, by omega⟩) (fun q => absurd (i_lt.mpr (by rw [show (0 : Int32).toInt = 0 from rfl]; omega)) q)
    | succ n ih =>
      intro a2 J hn h2 c s
      refine w_X5_putWord_3 (fun q => absurd (i_lt.mp q) (by rw [show (0 : Int32).toInt = 0 from rfl]; omega)) (fun _ => ?_)
      refine w_X5_putWord_7 (fun q => absurd (i_le.mp q) (by rw [show (2000 : Int32).toInt = 2000 from rfl]; omega)) (fun _ => ?_)
      have e8 : (a2 + (-8)).toInt = a2.toInt - 8 := by
        rw [i_add (y := -8) (by rw [show (-8 : Int32).toInt = -8 from rfl]; omega) (by rw [show (-8 : Int32).toInt = -8 from rfl]; omega)]
        rfl
      refine w_X5_putWord_17 hR (vin (by omega) (by omega)) (ih _ _ (by omega) (by omega) (cTp_up (cTp_up c (Or.inl rfl)) (Or.inr ⟨rfl, rfl⟩)) ?_)
      rw [qUp_at, if_pos ⟨rfl, rfl⟩, qUp_ne (fun q => by omega), i_s (by omega)]
      omega
  exact wkC_of 1 (by decide) (Nat.le_of_ble_eq_true rfl) (w_X5_putWord_0 (loop 4 24 I (by omega) (by rfl) (cTp_rf I) (by omega)))
theorem cRoom (h0 : 0 ≤ (I 1 1).toInt) (h1 : (I 1 1).toInt ≤ 2000) : wkCi l G (d + 1) n_X5_hasRoom [.ref 1, .int 20] I L R (fun y I' L' R' => R' = R ∧ L' = L ∧ I' = I ∧ ((y = 1 ∧ (I 1 1).toInt ≤ 1980) ∨ (y = 0 ∧ 1980 < (I 1 1).toInt))) := by
  have e20 : (I 1 1 + 20).toInt = (I 1 1).toInt + 20 := i_add (y := 20) (by rw [show (20 : Int32).toInt = 20 from rfl]; omega) (by rw [show (20 : Int32).toInt = 20 from rfl]; omega)
  refine wkC_of 0 (by decide) (Nat.le_of_ble_eq_true rfl) (w_X5_hasRoom_0 (fun q => ?_) (fun q => ?_))
  · have q := i_lt.mp q
    rw [e20, show (2000 : Int32).toInt = 2000 from rfl] at q
    exact w_X5_hasRoom_16 (w_X5_hasRoom_17 ⟨rfl, _, rfl, rfl, rfl, rfl, Or.inr ⟨rfl, by omega⟩⟩ (Or.inl rfl))
  · have q : ¬ _ := fun z => q (i_lt.mpr z)
    rw [e20, show (2000 : Int32).toInt = 2000 from rfl] at q
    exact w_X5_hasRoom_12 (w_X5_hasRoom_17 ⟨rfl, _, rfl, rfl, rfl, rfl, Or.inl ⟨rfl, by omega⟩⟩ (Or.inr rfl))
theorem cFeed (hR0 : R 0 0 = some 1) (hR : R 1 0 = some 2) {x1 x2 x3 x4 x5 : Int32} (h0 : 0 ≤ (I 1 1).toInt) (h1 : (I 1 1).toInt ≤ 2000) : wkCi l G (d + 2) n_X8_feed [.ref 0, .int x1, .int x2, .int x3, .int x4, .int x5] I L R (fun y I' L' R' => R' = R ∧ L' = L ∧ cTp I I' ∧ (((I 1 1).toInt ≤ 1980 ∧ (I' 1 1).toInt = (I 1 1).toInt + 20 ∧ y = I' 1 1) ∨ (1980 < (I 1 1).toInt ∧ I' = I ∧ y = -1))) := by
  refine wkC_of 0 (by decide) (Nat.le_of_ble_eq_true rfl) (w_X8_feed_0 hR0 (cRoom (d := d) h0 h1) (fun y J L1 R1 hq => ?_))
  obtain ⟨rfl, rfl, rfl, hy⟩ := hq
  rcases hy with ⟨rfl, hs⟩ | ⟨rfl, hs⟩
  · refine w_X8_feed_9 (fun _ => ?_) (fun q => absurd q (by decide))
    refine w_X8_feed_14 hR0 (cPut (d := d) hR h0 (by omega)) (fun J1 L1 R1 hq => ?_)
    obtain ⟨rfl, rfl, t1, e1⟩ := hq
    refine w_X8_feed_22 hR0 (cPut (d := d) hR (by omega) (by omega)) (fun J2 L1 R1 hq => ?_)
    obtain ⟨rfl, rfl, t2, e2⟩ := hq
    refine w_X8_feed_30 hR0 (cPut (d := d) hR (by omega) (by omega)) (fun J3 L1 R1 hq => ?_)
    obtain ⟨rfl, rfl, t3, e3⟩ := hq
    refine w_X8_feed_38 hR0 (cPut (d := d) hR (by omega) (by omega)) (fun J4 L1 R1 hq => ?_)
    obtain ⟨rfl, rfl, t4, e4⟩ := hq
    refine w_X8_feed_47 hR0 (cPut (d := d) hR (by omega) (by omega)) (fun J5 L1 R1 hq => ?_)
    obtain ⟨rfl, rfl, t5, e5⟩ := hq
    exact w_X8_feed_56 hR0 ⟨rfl, _, rfl, rfl, rfl, cTp_tr (cTp_tr (cTp_tr (cTp_tr t1 t2) t3) t4) t5, Or.inl ⟨by omega, by omega, rfl⟩⟩
  · refine w_X8_feed_9 (fun q => absurd rfl q) (fun _ => ?_)
    exact w_X8_feed_12 ⟨rfl, _, rfl, rfl, rfl, cTp_rf _, Or.inr ⟨hs, rfl, rfl⟩⟩
theorem cBack (hR0 : R 0 0 = some 1) {x : Int32} : wkCi l G (d + 2) n_X8_back [.ref 0, .int x] I L R (fun y I' L' R' => R' = R ∧ L' = L ∧ cTp I I' ∧ (((0 ≤ x.toInt ∧ x.toInt ≤ (I 1 1).toInt) ∧ (I' 1 1).toInt = (I 1 1).toInt - x.toInt ∧ y = I' 1 1) ∨ (¬ (0 ≤ x.toInt ∧ x.toInt ≤ (I 1 1).toInt) ∧ I' = I ∧ y = -1))) := by
  refine wkC_of 0 (by decide) (Nat.le_of_ble_eq_true rfl) (w_X8_back_0 hR0 (cDrop (d := d)) (fun y J L1 R1 hq => ?_))
  obtain ⟨rfl, rfl, hy⟩ := hq
  rcases hy with ⟨rfl, hs, rfl⟩ | ⟨rfl, hs, rfl⟩
  · refine w_X8_back_8 (fun q => absurd q (by decide)) (fun _ => w_X8_back_11 hR0 (w_X8_back_22 ⟨rfl, _, rfl, rfl, rfl, cTp_up (cTp_rf _) (Or.inr ⟨rfl, rfl⟩), Or.inl ⟨hs, ?_, rfl⟩⟩))
    rw [qUp_at, if_pos ⟨rfl, rfl⟩]
    have := i_hi (I 1 1)
    exact i_sub (by omega) (by omega)
  · exact w_X8_back_8 (fun _ => w_X8_back_21 (w_X8_back_22 ⟨rfl, _, rfl, rfl, rfl, cTp_rf _, Or.inr ⟨hs, rfl, rfl⟩⟩)) (fun q => absurd rfl q)
end
