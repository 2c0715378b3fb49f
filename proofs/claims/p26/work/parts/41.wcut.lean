section
variable {l : Launch} {G : qG} {d : Nat}
def n_X9_cut : qMn := (yX9_cut, cX9_cut, 8, none, 0, 0)
theorem to_X9_cut : qTo n_X9_cut 0 := ⟨g1343, g110, ⟨by decide, by decide, by decide +kernel⟩, by decide⟩
theorem w_X9_cut_0 {Q : qQ} {I : qMI} {L : qML} {R : qMR}  (k : wkB l G (d + 1) n_X9_cut Q 7 [.ref 292, .int 0, wkU, wkU, wkU, wkU, wkU, wkU] [] (qUp I 292 10 0) L R) : wkB l G (d + 1) n_X9_cut Q 0 [.ref 292, wkU, wkU, wkU, wkU, wkU, wkU, wkU] [] I L R :=
  bb_aload_n (n := 0) (i := 0) (zd (i := .aload_n 0) (n := 1) (by decide +kernel)) rfl rfl <|
  bb_lift (fun _ => q_iconst (n := 0) (zd (i := .iconst (0)) (n := 1) (by decide +kernel)) rfl) <|
  bb_puti (k := 292) (ci := 9) (j := 10) (idx := 178) (zd (i := .putfield 178) (n := 3) (by decide +kernel)) (by decide +kernel) (by decide +kernel) (by decide +kernel) (by decide +kernel) g1138 rfl rfl <|
  bb_lift (fun _ => q_iconst (n := 0) (zd (i := .iconst (0)) (n := 1) (by decide +kernel)) rfl) <|
  bb_istore_n (n := 1) (i := 1) (zd (i := .istore_n 1) (n := 1) (by decide +kernel)) rfl (by decide +kernel) (wkNl_r rfl) <|
  k
theorem w_X9_cut_7 {Q : qQ} {I : qMI} {L : qML} {R : qMR} {a1 : Int32} (kt : 400 < (I 292 10) → wkB l G (d + 1) n_X9_cut Q 294 [.ref 292, .int a1, wkU, wkU, wkU, wkU, wkU, wkU] [] I L R) (kf : ¬ 400 < (I 292 10) → wkB l G (d + 1) n_X9_cut Q 17 [.ref 292, .int a1, wkU, wkU, wkU, wkU, wkU, wkU] [] I L R) : wkB l G (d + 1) n_X9_cut Q 7 [.ref 292, .int a1, wkU, wkU, wkU, wkU, wkU, wkU] [] I L R :=
  bb_aload_n (n := 0) (i := 0) (zd (i := .aload_n 0) (n := 1) (by decide +kernel)) rfl rfl <|
  bb_geti (k := 292) (ci := 9) (j := 10) (idx := 178) (zd (i := .getfield 178) (n := 3) (by decide +kernel)) (by decide +kernel) (by decide +kernel) (by decide +kernel) (by decide +kernel) rfl g1138 <|
  bb_lift (fun _ => q_sipush (n := 400) (zd (i := .sipush (400)) (n := 3) (by decide +kernel)) rfl) <|
  (fun lv hl => q_icmp_gt (off := 280) (tgt := 294) (zd (i := .if_icmp .gt (280)) (n := 3) (by decide +kernel)) (by decide) (fun h => (kt h) lv hl) (fun h => (kf h) lv hl))
theorem w_X9_cut_17 {Q : qQ} {I : qMI} {L : qML} {R : qMR} {a1 : Int32} {P : Int32 → qMI → qML → Prop} (hc : wkI l G d n_X9_byteAt [.ref 292, .int a1] I L R P) (kk : ∀ y I' L', P y I' L' → wkB l G (d + 1) n_X9_cut Q 22 [.ref 292, .int a1, wkU, wkU, wkU, wkU, wkU, wkU] [.int y] I' L' R) : wkB l G (d + 1) n_X9_cut Q 17 [.ref 292, .int a1, wkU, wkU, wkU, wkU, wkU, wkU] [] I L R :=
  bb_aload_n (n := 0) (i := 0) (zd (i := .aload_n 0) (n := 1) (by decide +kernel)) rfl rfl <|
  bb_iload_n (n := 1) (i := 1) (zd (i := .iload_n 1) (n := 1) (by decide +kernel)) rfl rfl <|
  bb_callVI (idx := 181) (k := 292) (ci := 9) (N := n_X9_byteAt) (As := [.int a1]) (st := []) (zd (i := .invokevirtual 181) (n := 3) (by decide +kernel)) to_X9_byteAt g1344 g1346 g46 (Nat.le_of_ble_eq_true rfl) (by decide +kernel) (by decide +kernel) (by decide +kernel) rfl rfl rfl hc kk
theorem w_X9_cut_22 {Q : qQ} {I : qMI} {L : qML} {R : qMR} {a1 : Int32} {s0 : Int32} (kt : a1 < (I 292 4) → wkB l G (d + 1) n_X9_cut Q 43 [.ref 292, .int a1, .int s0, wkU, wkU, wkU, wkU, wkU] [] I L R) (kf : ¬ a1 < (I 292 4) → wkB l G (d + 1) n_X9_cut Q 31 [.ref 292, .int a1, .int s0, wkU, wkU, wkU, wkU, wkU] [] I L R) : wkB l G (d + 1) n_X9_cut Q 22 [.ref 292, .int a1, wkU, wkU, wkU, wkU, wkU, wkU] [.int s0] I L R :=
  bb_istore_n (n := 2) (i := 2) (zd (i := .istore_n 2) (n := 1) (by decide +kernel)) rfl (by decide +kernel) (wkNl_i rfl) <|
  bb_iload_n (n := 1) (i := 1) (zd (i := .iload_n 1) (n := 1) (by decide +kernel)) rfl rfl <|
  bb_aload_n (n := 0) (i := 0) (zd (i := .aload_n 0) (n := 1) (by decide +kernel)) rfl rfl <|
  bb_geti (k := 292) (ci := 9) (j := 4) (idx := 173) (zd (i := .getfield 173) (n := 3) (by decide +kernel)) (by decide +kernel) (by decide +kernel) (by decide +kernel) (by decide +kernel) rfl g1132 <|
  (fun lv hl => q_icmp_lt (off := 15) (tgt := 43) (zd (i := .if_icmp .lt (15)) (n := 3) (by decide +kernel)) (by decide) (fun h => (kt h) lv hl) (fun h => (kf h) lv hl))
theorem w_X9_cut_31 {Q : qQ} {I : qMI} {L : qML} {R : qMR} {a1 : Int32} {a2 : Int32} {P : qMI → qML → Prop} (hc : wkV l G d n_X9_token [.ref 292, .int 0, .int (I 292 4), .int 0, .long 0] I L R P) (kk : ∀ I' L', P I' L' → wkB l G (d + 1) n_X9_cut Q 42 [.ref 292, .int a1, .int a2, wkU, wkU, wkU, wkU, wkU] [] I' L' R) : wkB l G (d + 1) n_X9_cut Q 31 [.ref 292, .int a1, .int a2, wkU, wkU, wkU, wkU, wkU] [] I L R :=
  bb_aload_n (n := 0) (i := 0) (zd (i := .aload_n 0) (n := 1) (by decide +kernel)) rfl rfl <|
  bb_lift (fun _ => q_iconst (n := 0) (zd (i := .iconst (0)) (n := 1) (by decide +kernel)) rfl) <|
  bb_aload_n (n := 0) (i := 0) (zd (i := .aload_n 0) (n := 1) (by decide +kernel)) rfl rfl <|
  bb_geti (k := 292) (ci := 9) (j := 4) (idx := 173) (zd (i := .getfield 173) (n := 3) (by decide +kernel)) (by decide +kernel) (by decide +kernel) (by decide +kernel) (by decide +kernel) rfl g1132 <|
  bb_lift (fun _ => q_iconst (n := 0) (zd (i := .iconst (0)) (n := 1) (by decide +kernel)) rfl) <|
  bb_lift (fun _ => q_lconst (n := 0) (zd (i := .lconst 0) (n := 1) (by decide +kernel)) rfl) <|
  bb_callVV (idx := 185) (k := 292) (ci := 9) (N := n_X9_token) (As := [.int 0, .int (I 292 4), .int 0, .long 0]) (st := []) (zd (i := .invokevirtual 185) (n := 3) (by decide +kernel)) to_X9_token g1348 g1350 g47 (Nat.le_of_ble_eq_true rfl) (by decide +kernel) (by decide +kernel) (by decide +kernel) rfl rfl rfl hc kk
theorem w_X9_cut_42 {Q : qQ} {I : qMI} {L : qML} {R : qMR} {a1 : Int32} {a2 : Int32} (hQ : Q none 336 I L R) : wkB l G (d + 1) n_X9_cut Q 42 [.ref 292, .int a1, .int a2, wkU, wkU, wkU, wkU, wkU] [] I L R :=
  (fun lv hl => q_vret (zd (i := .return_) (n := 1) (by decide +kernel)) rfl (Nat.le_refl _) (Nat.le_refl _) hQ)
theorem w_X9_cut_43 {Q : qQ} {I : qMI} {L : qML} {R : qMR} {a1 : Int32} {a2 : Int32} (kt : a2 = 9 → wkB l G (d + 1) n_X9_cut Q 67 [.ref 292, .int a1, .int a2, wkU, wkU, wkU, wkU, wkU] [] I L R) (kf : ¬ a2 = 9 → wkB l G (d + 1) n_X9_cut Q 49 [.ref 292, .int a1, .int a2, wkU, wkU, wkU, wkU, wkU] [] I L R) : wkB l G (d + 1) n_X9_cut Q 43 [.ref 292, .int a1, .int a2, wkU, wkU, wkU, wkU, wkU] [] I L R :=
  bb_iload_n (n := 2) (i := 2) (zd (i := .iload_n 2) (n := 1) (by decide +kernel)) rfl rfl <|
  bb_lift (fun _ => q_bipush (n := 9) (zd (i := .bipush (9)) (n := 2) (by decide +kernel)) rfl) <|
  (fun lv hl => q_icmp_eq (off := 21) (tgt := 67) (zd (i := .if_icmp .eq (21)) (n := 3) (by decide +kernel)) (by decide) (fun h => (kt h) lv hl) (fun h => (kf h) lv hl))
theorem w_X9_cut_49 {Q : qQ} {I : qMI} {L : qML} {R : qMR} {a1 : Int32} {a2 : Int32} (kt : a2 = 10 → wkB l G (d + 1) n_X9_cut Q 67 [.ref 292, .int a1, .int a2, wkU, wkU, wkU, wkU, wkU] [] I L R) (kf : ¬ a2 = 10 → wkB l G (d + 1) n_X9_cut Q 55 [.ref 292, .int a1, .int a2, wkU, wkU, wkU, wkU, wkU] [] I L R) : wkB l G (d + 1) n_X9_cut Q 49 [.ref 292, .int a1, .int a2, wkU, wkU, wkU, wkU, wkU] [] I L R :=
  bb_iload_n (n := 2) (i := 2) (zd (i := .iload_n 2) (n := 1) (by decide +kernel)) rfl rfl <|
  bb_lift (fun _ => q_bipush (n := 10) (zd (i := .bipush (10)) (n := 2) (by decide +kernel)) rfl) <|
  (fun lv hl => q_icmp_eq (off := 15) (tgt := 67) (zd (i := .if_icmp .eq (15)) (n := 3) (by decide +kernel)) (by decide) (fun h => (kt h) lv hl) (fun h => (kf h) lv hl))
theorem w_X9_cut_55 {Q : qQ} {I : qMI} {L : qML} {R : qMR} {a1 : Int32} {a2 : Int32} (kt : a2 = 13 → wkB l G (d + 1) n_X9_cut Q 67 [.ref 292, .int a1, .int a2, wkU, wkU, wkU, wkU, wkU] [] I L R) (kf : ¬ a2 = 13 → wkB l G (d + 1) n_X9_cut Q 61 [.ref 292, .int a1, .int a2, wkU, wkU, wkU, wkU, wkU] [] I L R) : wkB l G (d + 1) n_X9_cut Q 55 [.ref 292, .int a1, .int a2, wkU, wkU, wkU, wkU, wkU] [] I L R :=
  bb_iload_n (n := 2) (i := 2) (zd (i := .iload_n 2) (n := 1) (by decide +kernel)) rfl rfl <|
  bb_lift (fun _ => q_bipush (n := 13) (zd (i := .bipush (13)) (n := 2) (by decide +kernel)) rfl) <|
  (fun lv hl => q_icmp_eq (off := 9) (tgt := 67) (zd (i := .if_icmp .eq (9)) (n := 3) (by decide +kernel)) (by decide) (fun h => (kt h) lv hl) (fun h => (kf h) lv hl))
theorem w_X9_cut_61 {Q : qQ} {I : qMI} {L : qML} {R : qMR} {a1 : Int32} {a2 : Int32} (kt : ¬ a2 = 32 → wkB l G (d + 1) n_X9_cut Q 73 [.ref 292, .int a1, .int a2, wkU, wkU, wkU, wkU, wkU] [] I L R) (kf : a2 = 32 → wkB l G (d + 1) n_X9_cut Q 67 [.ref 292, .int a1, .int a2, wkU, wkU, wkU, wkU, wkU] [] I L R) : wkB l G (d + 1) n_X9_cut Q 61 [.ref 292, .int a1, .int a2, wkU, wkU, wkU, wkU, wkU] [] I L R :=
  bb_iload_n (n := 2) (i := 2) (zd (i := .iload_n 2) (n := 1) (by decide +kernel)) rfl rfl <|
  bb_lift (fun _ => q_bipush (n := 32) (zd (i := .bipush (32)) (n := 2) (by decide +kernel)) rfl) <|
  (fun lv hl => q_icmp_ne (off := 9) (tgt := 73) (zd (i := .if_icmp .ne (9)) (n := 3) (by decide +kernel)) (by decide) (fun h => (kt h) lv hl) (fun h => (kf h) lv hl))
theorem w_X9_cut_67 {Q : qQ} {I : qMI} {L : qML} {R : qMR} {a1 : Int32} {a2 : Int32} (k : wkB l G (d + 1) n_X9_cut Q 291 [.ref 292, .int (a1 + 1), .int a2, wkU, wkU, wkU, wkU, wkU] [] I L R) : wkB l G (d + 1) n_X9_cut Q 67 [.ref 292, .int a1, .int a2, wkU, wkU, wkU, wkU, wkU] [] I L R :=
  bb_iinc (i := 1) (n := 1) (zd (i := .iinc 1 (1)) (n := 3) (by decide +kernel)) rfl rfl (by decide +kernel) (wkNl_r rfl) <|
  bb_lift (fun _ => q_goto (off := 221) (tgt := 291) (zd (i := .goto (221)) (n := 3) (by decide +kernel)) (by decide)) k
theorem w_X9_cut_73 {Q : qQ} {I : qMI} {L : qML} {R : qMR} {a1 : Int32} {a2 : Int32} {P : Int32 → qMI → qML → Prop} (hc : wkI l G d n_X9_isLetter [.int a2] I L R P) (kk : ∀ y I' L', P y I' L' → wkB l G (d + 1) n_X9_cut Q 77 [.ref 292, .int a1, .int a2, wkU, wkU, wkU, wkU, wkU] [.int y] I' L' R) : wkB l G (d + 1) n_X9_cut Q 73 [.ref 292, .int a1, .int a2, wkU, wkU, wkU, wkU, wkU] [] I L R :=
  bb_iload_n (n := 2) (i := 2) (zd (i := .iload_n 2) (n := 1) (by decide +kernel)) rfl rfl <|
  bb_callSI (idx := 189) (N := n_X9_isLetter) (As := [.int a2]) (st := []) (zd (i := .invokestatic 189) (n := 3) (by decide +kernel)) to_X9_isLetter g1352 g1353 (Nat.le_of_ble_eq_true rfl) rfl rfl hc kk
theorem w_X9_cut_77 {Q : qQ} {I : qMI} {L : qML} {R : qMR} {a1 : Int32} {a2 : Int32} {s0 : Int32} (kt : s0 = 0 → wkB l G (d + 1) n_X9_cut Q 196 [.ref 292, .int a1, .int a2, wkU, wkU, wkU, wkU, wkU] [] I L R) (kf : ¬ s0 = 0 → wkB l G (d + 1) n_X9_cut Q 80 [.ref 292, .int a1, .int a2, wkU, wkU, wkU, wkU, wkU] [] I L R) : wkB l G (d + 1) n_X9_cut Q 77 [.ref 292, .int a1, .int a2, wkU, wkU, wkU, wkU, wkU] [.int s0] I L R :=
  (fun lv hl => q_if_eq (off := 119) (tgt := 196) (zd (i := .ifCond .eq (119)) (n := 3) (by decide +kernel)) (by decide) (fun h => (kt h) lv hl) (fun h => (kf h) lv hl))
theorem w_X9_cut_80 {Q : qQ} {I : qMI} {L : qML} {R : qMR} {a1 : Int32} {a2 : Int32} (k : wkB l G (d + 1) n_X9_cut Q 85 [.ref 292, .int a1, .int a2, .int 0, .long 0, wkU, wkU, wkU] [] I L R) : wkB l G (d + 1) n_X9_cut Q 80 [.ref 292, .int a1, .int a2, wkU, wkU, wkU, wkU, wkU] [] I L R :=
  bb_lift (fun _ => q_iconst (n := 0) (zd (i := .iconst (0)) (n := 1) (by decide +kernel)) rfl) <|
  bb_istore_n (n := 3) (i := 3) (zd (i := .istore_n 3) (n := 1) (by decide +kernel)) rfl (by decide +kernel) (wkNl_i rfl) <|
  bb_lift (fun _ => q_lconst (n := 0) (zd (i := .lconst 0) (n := 1) (by decide +kernel)) rfl) <|
  bb_lstore (i := 4) (zd (i := .lstore 4) (n := 2) (by decide +kernel)) (by decide +kernel) (wkNl_i rfl) <|
  k
theorem w_X9_cut_85 {Q : qQ} {I : qMI} {L : qML} {R : qMR} {a1 : Int32} {a2 : Int32} {a3 : Int32} {a4 : Int64} {P : Int32 → qMI → qML → Prop} (hc : wkI l G d n_X9_byteAt [.ref 292, .int (a1 + a3)] I L R P) (kk : ∀ y I' L', P y I' L' → wkB l G (d + 1) n_X9_cut Q 92 [.ref 292, .int a1, .int a2, .int a3, .long a4, wkU, wkU, wkU] [.int y] I' L' R) : wkB l G (d + 1) n_X9_cut Q 85 [.ref 292, .int a1, .int a2, .int a3, .long a4, wkU, wkU, wkU] [] I L R :=
  bb_aload_n (n := 0) (i := 0) (zd (i := .aload_n 0) (n := 1) (by decide +kernel)) rfl rfl <|
  bb_iload_n (n := 1) (i := 1) (zd (i := .iload_n 1) (n := 1) (by decide +kernel)) rfl rfl <|
  bb_iload_n (n := 3) (i := 3) (zd (i := .iload_n 3) (n := 1) (by decide +kernel)) rfl rfl <|
  bb_lift (fun _ => q_iadd (zd (i := .iadd) (n := 1) (by decide +kernel))) <|
  bb_callVI (idx := 181) (k := 292) (ci := 9) (N := n_X9_byteAt) (As := [.int (a1 + a3)]) (st := []) (zd (i := .invokevirtual 181) (n := 3) (by decide +kernel)) to_X9_byteAt g1344 g1346 g46 (Nat.le_of_ble_eq_true rfl) (by decide +kernel) (by decide +kernel) (by decide +kernel) rfl rfl rfl hc kk
theorem w_X9_cut_92 {Q : qQ} {I : qMI} {L : qML} {R : qMR} {a1 : Int32} {a2 : Int32} {a3 : Int32} {a4 : Int64} {s0 : Int32} {P : Int32 → qMI → qML → Prop} (hc : wkI l G d n_X9_isLetter [.int s0] I L R P) (kk : ∀ y I' L', P y I' L' → wkB l G (d + 1) n_X9_cut Q 95 [.ref 292, .int a1, .int a2, .int a3, .long a4, wkU, wkU, wkU] [.int y] I' L' R) : wkB l G (d + 1) n_X9_cut Q 92 [.ref 292, .int a1, .int a2, .int a3, .long a4, wkU, wkU, wkU] [.int s0] I L R :=
  bb_callSI (idx := 189) (N := n_X9_isLetter) (As := [.int s0]) (st := []) (zd (i := .invokestatic 189) (n := 3) (by decide +kernel)) to_X9_isLetter g1352 g1353 (Nat.le_of_ble_eq_true rfl) rfl rfl hc kk
theorem w_X9_cut_95 {Q : qQ} {I : qMI} {L : qML} {R : qMR} {a1 : Int32} {a2 : Int32} {a3 : Int32} {a4 : Int64} {s0 : Int32} (kt : s0 = 0 → wkB l G (d + 1) n_X9_cut Q 124 [.ref 292, .int a1, .int a2, .int a3, .long a4, wkU, wkU, wkU] [] I L R) (kf : ¬ s0 = 0 → wkB l G (d + 1) n_X9_cut Q 98 [.ref 292, .int a1, .int a2, .int a3, .long a4, wkU, wkU, wkU] [] I L R) : wkB l G (d + 1) n_X9_cut Q 95 [.ref 292, .int a1, .int a2, .int a3, .long a4, wkU, wkU, wkU] [.int s0] I L R :=
  (fun lv hl => q_if_eq (off := 29) (tgt := 124) (zd (i := .ifCond .eq (29)) (n := 3) (by decide +kernel)) (by decide) (fun h => (kt h) lv hl) (fun h => (kf h) lv hl))
theorem w_X9_cut_98 {Q : qQ} {I : qMI} {L : qML} {R : qMR} {a1 : Int32} {a2 : Int32} {a3 : Int32} {a4 : Int64} (kt : 8 ≤ a3 → wkB l G (d + 1) n_X9_cut Q 118 [.ref 292, .int a1, .int a2, .int a3, .long a4, wkU, wkU, wkU] [] I L R) (kf : ¬ 8 ≤ a3 → wkB l G (d + 1) n_X9_cut Q 104 [.ref 292, .int a1, .int a2, .int a3, .long a4, wkU, wkU, wkU] [] I L R) : wkB l G (d + 1) n_X9_cut Q 98 [.ref 292, .int a1, .int a2, .int a3, .long a4, wkU, wkU, wkU] [] I L R :=
  bb_iload_n (n := 3) (i := 3) (zd (i := .iload_n 3) (n := 1) (by decide +kernel)) rfl rfl <|
  bb_lift (fun _ => q_bipush (n := 8) (zd (i := .bipush (8)) (n := 2) (by decide +kernel)) rfl) <|
  (fun lv hl => q_icmp_ge (off := 17) (tgt := 118) (zd (i := .if_icmp .ge (17)) (n := 3) (by decide +kernel)) (by decide) (fun h => (kt h) lv hl) (fun h => (kf h) lv hl))
theorem w_X9_cut_104 {Q : qQ} {I : qMI} {L : qML} {R : qMR} {a1 : Int32} {a2 : Int32} {a3 : Int32} {a4 : Int64} {P : Int32 → qMI → qML → Prop} (hc : wkI l G d n_X9_byteAt [.ref 292, .int (a1 + a3)] I L R P) (kk : ∀ y I' L', P y I' L' → wkB l G (d + 1) n_X9_cut Q 113 [.ref 292, .int a1, .int a2, .int a3, .long a4, wkU, wkU, wkU] [.int y, .long a4] I' L' R) : wkB l G (d + 1) n_X9_cut Q 104 [.ref 292, .int a1, .int a2, .int a3, .long a4, wkU, wkU, wkU] [] I L R :=
  bb_lload (i := 4) (zd (i := .lload 4) (n := 2) (by decide +kernel)) rfl <|
  bb_aload_n (n := 0) (i := 0) (zd (i := .aload_n 0) (n := 1) (by decide +kernel)) rfl rfl <|
  bb_iload_n (n := 1) (i := 1) (zd (i := .iload_n 1) (n := 1) (by decide +kernel)) rfl rfl <|
  bb_iload_n (n := 3) (i := 3) (zd (i := .iload_n 3) (n := 1) (by decide +kernel)) rfl rfl <|
  bb_lift (fun _ => q_iadd (zd (i := .iadd) (n := 1) (by decide +kernel))) <|
  bb_callVI (idx := 181) (k := 292) (ci := 9) (N := n_X9_byteAt) (As := [.int (a1 + a3)]) (st := [.long a4]) (zd (i := .invokevirtual 181) (n := 3) (by decide +kernel)) to_X9_byteAt g1344 g1346 g46 (Nat.le_of_ble_eq_true rfl) (by decide +kernel) (by decide +kernel) (by decide +kernel) rfl rfl rfl hc kk
theorem w_X9_cut_113 {Q : qQ} {I : qMI} {L : qML} {R : qMR} {a1 : Int32} {a2 : Int32} {a3 : Int32} {a4 : Int64} {s0 : Int64} {s1 : Int32} {P : Int64 → qMI → qML → Prop} (hc : wkJ l G d n_X9_appends [.long s0, .int s1] I L R P) (kk : ∀ y I' L', P y I' L' → wkB l G (d + 1) n_X9_cut Q 116 [.ref 292, .int a1, .int a2, .int a3, .long a4, wkU, wkU, wkU] [.long y] I' L' R) : wkB l G (d + 1) n_X9_cut Q 113 [.ref 292, .int a1, .int a2, .int a3, .long a4, wkU, wkU, wkU] [.int s1, .long s0] I L R :=
  bb_callSJ (idx := 157) (N := n_X9_appends) (As := [.long s0, .int s1]) (st := []) (zd (i := .invokestatic 157) (n := 3) (by decide +kernel)) to_X9_appends g1117 g1118 (Nat.le_of_ble_eq_true rfl) rfl rfl hc kk
theorem w_X9_cut_116 {Q : qQ} {I : qMI} {L : qML} {R : qMR} {a1 : Int32} {a2 : Int32} {a3 : Int32} {a4 : Int64} {s0 : Int64} (k : wkB l G (d + 1) n_X9_cut Q 118 [.ref 292, .int a1, .int a2, .int a3, .long s0, wkU, wkU, wkU] [] I L R) : wkB l G (d + 1) n_X9_cut Q 116 [.ref 292, .int a1, .int a2, .int a3, .long a4, wkU, wkU, wkU] [.long s0] I L R :=
  bb_lstore (i := 4) (zd (i := .lstore 4) (n := 2) (by decide +kernel)) (by decide +kernel) (wkNl_i rfl) <|
  k
theorem w_X9_cut_118 {Q : qQ} {I : qMI} {L : qML} {R : qMR} {a1 : Int32} {a2 : Int32} {a3 : Int32} {a4 : Int64} (k : wkB l G (d + 1) n_X9_cut Q 85 [.ref 292, .int a1, .int a2, .int (a3 + 1), .long a4, wkU, wkU, wkU] [] I L R) : wkB l G (d + 1) n_X9_cut Q 118 [.ref 292, .int a1, .int a2, .int a3, .long a4, wkU, wkU, wkU] [] I L R :=
  bb_iinc (i := 3) (n := 1) (zd (i := .iinc 3 (1)) (n := 3) (by decide +kernel)) rfl rfl (by decide +kernel) (wkNl_i rfl) <|
  bb_lift (fun _ => q_goto (off := -36) (tgt := 85) (zd (i := .goto (-36)) (n := 3) (by decide +kernel)) (by decide)) k
theorem w_X9_cut_124 {Q : qQ} {I : qMI} {L : qML} {R : qMR} {a1 : Int32} {a2 : Int32} {a3 : Int32} {a4 : Int64} (kt : a3 ≤ 8 → wkB l G (d + 1) n_X9_cut Q 134 [.ref 292, .int a1, .int a2, .int a3, .long a4, wkU, wkU, wkU] [] I L R) (kf : ¬ a3 ≤ 8 → wkB l G (d + 1) n_X9_cut Q 130 [.ref 292, .int a1, .int a2, .int a3, .long a4, wkU, wkU, wkU] [] I L R) : wkB l G (d + 1) n_X9_cut Q 124 [.ref 292, .int a1, .int a2, .int a3, .long a4, wkU, wkU, wkU] [] I L R :=
  bb_iload_n (n := 3) (i := 3) (zd (i := .iload_n 3) (n := 1) (by decide +kernel)) rfl rfl <|
  bb_lift (fun _ => q_bipush (n := 8) (zd (i := .bipush (8)) (n := 2) (by decide +kernel)) rfl) <|
  (fun lv hl => q_icmp_le (off := 7) (tgt := 134) (zd (i := .if_icmp .le (7)) (n := 3) (by decide +kernel)) (by decide) (fun h => (kt h) lv hl) (fun h => (kf h) lv hl))
theorem w_X9_cut_130 {Q : qQ} {I : qMI} {L : qML} {R : qMR} {a1 : Int32} {a2 : Int32} {a3 : Int32} {a4 : Int64} (k : wkB l G (d + 1) n_X9_cut Q 135 [.ref 292, .int a1, .int a2, .int a3, .long a4, wkU, wkU, wkU] [.int 3] I L R) : wkB l G (d + 1) n_X9_cut Q 130 [.ref 292, .int a1, .int a2, .int a3, .long a4, wkU, wkU, wkU] [] I L R :=
  bb_lift (fun _ => q_iconst (n := 3) (zd (i := .iconst (3)) (n := 1) (by decide +kernel)) rfl) <|
  bb_lift (fun _ => q_goto (off := 4) (tgt := 135) (zd (i := .goto (4)) (n := 3) (by decide +kernel)) (by decide)) k
theorem w_X9_cut_134 {Q : qQ} {I : qMI} {L : qML} {R : qMR} {a1 : Int32} {a2 : Int32} {a3 : Int32} {a4 : Int64} (k : wkB l G (d + 1) n_X9_cut Q 135 [.ref 292, .int a1, .int a2, .int a3, .long a4, wkU, wkU, wkU] [.int 1] I L R) : wkB l G (d + 1) n_X9_cut Q 134 [.ref 292, .int a1, .int a2, .int a3, .long a4, wkU, wkU, wkU] [] I L R :=
  bb_lift (fun _ => q_iconst (n := 1) (zd (i := .iconst (1)) (n := 1) (by decide +kernel)) rfl) <|
  k
theorem w_X9_cut_135 {Q : qQ} {I : qMI} {L : qML} {R : qMR} {a1 : Int32} {a2 : Int32} {a3 : Int32} {a4 : Int64} {s0 : Int32} (kt : 8 < a3 → wkB l G (d + 1) n_X9_cut Q 179 [.ref 292, .int a1, .int a2, .int a3, .long a4, wkU, .int s0, wkU] [] I L R) (kf : ¬ 8 < a3 → wkB l G (d + 1) n_X9_cut Q 143 [.ref 292, .int a1, .int a2, .int a3, .long a4, wkU, .int s0, wkU] [] I L R) : wkB l G (d + 1) n_X9_cut Q 135 [.ref 292, .int a1, .int a2, .int a3, .long a4, wkU, wkU, wkU] [.int s0] I L R :=
  bb_istore (i := 6) (zd (i := .istore 6) (n := 2) (by decide +kernel)) (by decide +kernel) (wkNl_u rfl) <|
  bb_iload_n (n := 3) (i := 3) (zd (i := .iload_n 3) (n := 1) (by decide +kernel)) rfl rfl <|
  bb_lift (fun _ => q_bipush (n := 8) (zd (i := .bipush (8)) (n := 2) (by decide +kernel)) rfl) <|
  (fun lv hl => q_icmp_gt (off := 39) (tgt := 179) (zd (i := .if_icmp .gt (39)) (n := 3) (by decide +kernel)) (by decide) (fun h => (kt h) lv hl) (fun h => (kf h) lv hl))
theorem w_X9_cut_143 {Q : qQ} {I : qMI} {L : qML} {R : qMR} {a1 : Int32} {a2 : Int32} {a3 : Int32} {a4 : Int64} {a6 : Int32} (k : wkB l G (d + 1) n_X9_cut Q 146 [.ref 292, .int a1, .int a2, .int a3, .long a4, wkU, .int a6, .int 0] [] I L R) : wkB l G (d + 1) n_X9_cut Q 143 [.ref 292, .int a1, .int a2, .int a3, .long a4, wkU, .int a6, wkU] [] I L R :=
  bb_lift (fun _ => q_iconst (n := 0) (zd (i := .iconst (0)) (n := 1) (by decide +kernel)) rfl) <|
  bb_istore (i := 7) (zd (i := .istore 7) (n := 2) (by decide +kernel)) (by decide +kernel) (wkNl_i rfl) <|
  k
theorem w_X9_cut_146 {Q : qQ} {I : qMI} {L : qML} {R : qMR} {a1 : Int32} {a2 : Int32} {a3 : Int32} {a4 : Int64} {a6 : Int32} {a7 : Int32} (kt : 23 ≤ a7 → wkB l G (d + 1) n_X9_cut Q 179 [.ref 292, .int a1, .int a2, .int a3, .long a4, wkU, .int a6, wkU] [] I L R) (kf : ¬ 23 ≤ a7 → wkB l G (d + 1) n_X9_cut Q 153 [.ref 292, .int a1, .int a2, .int a3, .long a4, wkU, .int a6, .int a7] [] I L R) : wkB l G (d + 1) n_X9_cut Q 146 [.ref 292, .int a1, .int a2, .int a3, .long a4, wkU, .int a6, .int a7] [] I L R :=
  bb_iload (i := 7) (zd (i := .iload 7) (n := 2) (by decide +kernel)) rfl <|
  bb_lift (fun _ => q_bipush (n := 23) (zd (i := .bipush (23)) (n := 2) (by decide +kernel)) rfl) <|
  (fun lv hl => q_icmp_ge (off := 29) (tgt := 179) (zd (i := .if_icmp .ge (29)) (n := 3) (by decide +kernel)) (by decide) (fun h => ((wkB_le (vs := [.ref 292, .int a1, .int a2, .int a3, .long a4, wkU, .int a6, wkU]) (ws := [.ref 292, .int a1, .int a2, .int a3, .long a4, wkU, .int a6, .int a7]) ⟨Or.inr rfl, Or.inr rfl, Or.inr rfl, Or.inr rfl, Or.inr rfl, Or.inr rfl, Or.inr rfl, Or.inl rfl, trivial⟩ (kt h))) lv hl) (fun h => (kf h) lv hl))
theorem w_X9_cut_153 {Q : qQ} {I : qMI} {L : qML} {R : qMR} (hR : wkR R) {a1 : Int32} {a2 : Int32} {a3 : Int32} {a4 : Int64} {a6 : Int32} {a7 : Int32} (h1 : vp_in a7 23) (kt : ¬ (lg_cmp (L 299 a7.toNatClampNeg) a4) = 0 → wkB l G (d + 1) n_X9_cut Q 173 [.ref 292, .int a1, .int a2, .int a3, .long a4, wkU, .int a6, .int a7] [] I L R) (kf : (lg_cmp (L 299 a7.toNatClampNeg) a4) = 0 → wkB l G (d + 1) n_X9_cut Q 166 [.ref 292, .int a1, .int a2, .int a3, .long a4, wkU, .int a6, .int a7] [] I L R) : wkB l G (d + 1) n_X9_cut Q 153 [.ref 292, .int a1, .int a2, .int a3, .long a4, wkU, .int a6, .int a7] [] I L R :=
  bb_aload_n (n := 0) (i := 0) (zd (i := .aload_n 0) (n := 1) (by decide +kernel)) rfl rfl <|
  bb_getr (k := 292) (ci := 9) (j := 9) (idx := 34) (a := 299) (zd (i := .getfield 34) (n := 3) (by decide +kernel)) (by decide +kernel) (by decide +kernel) (by decide +kernel) (by decide +kernel) rfl g1137 (hR 9 (by decide)) <|
  bb_iload (i := 7) (zd (i := .iload 7) (n := 2) (by decide +kernel)) rfl <|
  bb_lift (fun _ => q_lald (k := 299) (zd (i := .laload) (n := 1) (by decide +kernel)) (by decide +kernel) (by decide +kernel) h1) <|
  bb_lload (i := 4) (zd (i := .lload 4) (n := 2) (by decide +kernel)) rfl <|
  bb_lift (fun _ => q_lcmp (zd (i := .lcmp) (n := 1) (by decide +kernel))) <|
  (fun lv hl => q_if_ne (off := 10) (tgt := 173) (zd (i := .ifCond .ne (10)) (n := 3) (by decide +kernel)) (by decide) (fun h => (kt h) lv hl) (fun h => (kf h) lv hl))
theorem w_X9_cut_166 {Q : qQ} {I : qMI} {L : qML} {R : qMR} {a1 : Int32} {a2 : Int32} {a3 : Int32} {a4 : Int64} {a6 : Int32} {a7 : Int32} (k : wkB l G (d + 1) n_X9_cut Q 173 [.ref 292, .int a1, .int a2, .int a3, .long a4, wkU, .int (20 + a7), .int a7] [] I L R) : wkB l G (d + 1) n_X9_cut Q 166 [.ref 292, .int a1, .int a2, .int a3, .long a4, wkU, .int a6, .int a7] [] I L R :=
  bb_lift (fun _ => q_bipush (n := 20) (zd (i := .bipush (20)) (n := 2) (by decide +kernel)) rfl) <|
  bb_iload (i := 7) (zd (i := .iload 7) (n := 2) (by decide +kernel)) rfl <|
  bb_lift (fun _ => q_iadd (zd (i := .iadd) (n := 1) (by decide +kernel))) <|
  bb_istore (i := 6) (zd (i := .istore 6) (n := 2) (by decide +kernel)) (by decide +kernel) (wkNl_u rfl) <|
  k
theorem w_X9_cut_173 {Q : qQ} {I : qMI} {L : qML} {R : qMR} {a1 : Int32} {a2 : Int32} {a3 : Int32} {a4 : Int64} {a6 : Int32} {a7 : Int32} (k : wkB l G (d + 1) n_X9_cut Q 146 [.ref 292, .int a1, .int a2, .int a3, .long a4, wkU, .int a6, .int (a7 + 1)] [] I L R) : wkB l G (d + 1) n_X9_cut Q 173 [.ref 292, .int a1, .int a2, .int a3, .long a4, wkU, .int a6, .int a7] [] I L R :=
  bb_iinc (i := 7) (n := 1) (zd (i := .iinc 7 (1)) (n := 3) (by decide +kernel)) rfl rfl (by decide +kernel) (wkNl_i rfl) <|
  bb_lift (fun _ => q_goto (off := -30) (tgt := 146) (zd (i := .goto (-30)) (n := 3) (by decide +kernel)) (by decide)) k
theorem w_X9_cut_179 {Q : qQ} {I : qMI} {L : qML} {R : qMR} {a1 : Int32} {a2 : Int32} {a3 : Int32} {a4 : Int64} {a6 : Int32} {P : qMI → qML → Prop} (hc : wkV l G d n_X9_token [.ref 292, .int a6, .int a1, .int 0, .long a4] I L R P) (kk : ∀ I' L', P I' L' → wkB l G (d + 1) n_X9_cut Q 189 [.ref 292, .int a1, .int a2, .int a3, .long a4, wkU, .int a6, wkU] [] I' L' R) : wkB l G (d + 1) n_X9_cut Q 179 [.ref 292, .int a1, .int a2, .int a3, .long a4, wkU, .int a6, wkU] [] I L R :=
  bb_aload_n (n := 0) (i := 0) (zd (i := .aload_n 0) (n := 1) (by decide +kernel)) rfl rfl <|
  bb_iload (i := 6) (zd (i := .iload 6) (n := 2) (by decide +kernel)) rfl <|
  bb_iload_n (n := 1) (i := 1) (zd (i := .iload_n 1) (n := 1) (by decide +kernel)) rfl rfl <|
  bb_lift (fun _ => q_iconst (n := 0) (zd (i := .iconst (0)) (n := 1) (by decide +kernel)) rfl) <|
  bb_lload (i := 4) (zd (i := .lload 4) (n := 2) (by decide +kernel)) rfl <|
  bb_callVV (idx := 185) (k := 292) (ci := 9) (N := n_X9_token) (As := [.int a6, .int a1, .int 0, .long a4]) (st := []) (zd (i := .invokevirtual 185) (n := 3) (by decide +kernel)) to_X9_token g1348 g1350 g47 (Nat.le_of_ble_eq_true rfl) (by decide +kernel) (by decide +kernel) (by decide +kernel) rfl rfl rfl hc kk
theorem w_X9_cut_189 {Q : qQ} {I : qMI} {L : qML} {R : qMR} {a1 : Int32} {a2 : Int32} {a3 : Int32} {a4 : Int64} {a6 : Int32} (k : wkB l G (d + 1) n_X9_cut Q 291 [.ref 292, .int (a1 + a3), .int a2, wkU, wkU, wkU, wkU, wkU] [] I L R) : wkB l G (d + 1) n_X9_cut Q 189 [.ref 292, .int a1, .int a2, .int a3, .long a4, wkU, .int a6, wkU] [] I L R :=
  bb_iload_n (n := 1) (i := 1) (zd (i := .iload_n 1) (n := 1) (by decide +kernel)) rfl rfl <|
  bb_iload_n (n := 3) (i := 3) (zd (i := .iload_n 3) (n := 1) (by decide +kernel)) rfl rfl <|
  bb_lift (fun _ => q_iadd (zd (i := .iadd) (n := 1) (by decide +kernel))) <|
  bb_istore_n (n := 1) (i := 1) (zd (i := .istore_n 1) (n := 1) (by decide +kernel)) rfl (by decide +kernel) (wkNl_r rfl) <|
  bb_lift (fun _ => q_goto (off := 98) (tgt := 291) (zd (i := .goto (98)) (n := 3) (by decide +kernel)) (by decide)) (wkB_le (vs := [.ref 292, .int (a1 + a3), .int a2, wkU, wkU, wkU, wkU, wkU]) (ws := [.ref 292, .int (a1 + a3), .int a2, .int a3, .long a4, wkU, .int a6, wkU]) ⟨Or.inr rfl, Or.inr rfl, Or.inr rfl, Or.inl rfl, Or.inl rfl, Or.inr rfl, Or.inl rfl, Or.inr rfl, trivial⟩ (k))
theorem w_X9_cut_196 {Q : qQ} {I : qMI} {L : qML} {R : qMR} {a1 : Int32} {a2 : Int32} {P : Int32 → qMI → qML → Prop} (hc : wkI l G d n_X9_isDigit [.int a2] I L R P) (kk : ∀ y I' L', P y I' L' → wkB l G (d + 1) n_X9_cut Q 200 [.ref 292, .int a1, .int a2, wkU, wkU, wkU, wkU, wkU] [.int y] I' L' R) : wkB l G (d + 1) n_X9_cut Q 196 [.ref 292, .int a1, .int a2, wkU, wkU, wkU, wkU, wkU] [] I L R :=
  bb_iload_n (n := 2) (i := 2) (zd (i := .iload_n 2) (n := 1) (by decide +kernel)) rfl rfl <|
  bb_callSI (idx := 193) (N := n_X9_isDigit) (As := [.int a2]) (st := []) (zd (i := .invokestatic 193) (n := 3) (by decide +kernel)) to_X9_isDigit g1355 g1356 (Nat.le_of_ble_eq_true rfl) rfl rfl hc kk
theorem w_X9_cut_200 {Q : qQ} {I : qMI} {L : qML} {R : qMR} {a1 : Int32} {a2 : Int32} {s0 : Int32} (kt : s0 = 0 → wkB l G (d + 1) n_X9_cut Q 275 [.ref 292, .int a1, .int a2, wkU, wkU, wkU, wkU, wkU] [] I L R) (kf : ¬ s0 = 0 → wkB l G (d + 1) n_X9_cut Q 203 [.ref 292, .int a1, .int a2, wkU, wkU, wkU, wkU, wkU] [] I L R) : wkB l G (d + 1) n_X9_cut Q 200 [.ref 292, .int a1, .int a2, wkU, wkU, wkU, wkU, wkU] [.int s0] I L R :=
  (fun lv hl => q_if_eq (off := 75) (tgt := 275) (zd (i := .ifCond .eq (75)) (n := 3) (by decide +kernel)) (by decide) (fun h => (kt h) lv hl) (fun h => (kf h) lv hl))
theorem w_X9_cut_203 {Q : qQ} {I : qMI} {L : qML} {R : qMR} {a1 : Int32} {a2 : Int32} (k : wkB l G (d + 1) n_X9_cut Q 208 [.ref 292, .int a1, .int a2, .int 0, .int 0, wkU, wkU, wkU] [] I L R) : wkB l G (d + 1) n_X9_cut Q 203 [.ref 292, .int a1, .int a2, wkU, wkU, wkU, wkU, wkU] [] I L R :=
  bb_lift (fun _ => q_iconst (n := 0) (zd (i := .iconst (0)) (n := 1) (by decide +kernel)) rfl) <|
  bb_istore_n (n := 3) (i := 3) (zd (i := .istore_n 3) (n := 1) (by decide +kernel)) rfl (by decide +kernel) (wkNl_i rfl) <|
  bb_lift (fun _ => q_iconst (n := 0) (zd (i := .iconst (0)) (n := 1) (by decide +kernel)) rfl) <|
  bb_istore (i := 4) (zd (i := .istore 4) (n := 2) (by decide +kernel)) (by decide +kernel) (wkNl_i rfl) <|
  k
theorem w_X9_cut_208 {Q : qQ} {I : qMI} {L : qML} {R : qMR} {a1 : Int32} {a2 : Int32} {a3 : Int32} {a4 : Int32} {P : Int32 → qMI → qML → Prop} (hc : wkI l G d n_X9_byteAt [.ref 292, .int (a1 + a3)] I L R P) (kk : ∀ y I' L', P y I' L' → wkB l G (d + 1) n_X9_cut Q 215 [.ref 292, .int a1, .int a2, .int a3, .int a4, wkU, wkU, wkU] [.int y] I' L' R) : wkB l G (d + 1) n_X9_cut Q 208 [.ref 292, .int a1, .int a2, .int a3, .int a4, wkU, wkU, wkU] [] I L R :=
  bb_aload_n (n := 0) (i := 0) (zd (i := .aload_n 0) (n := 1) (by decide +kernel)) rfl rfl <|
  bb_iload_n (n := 1) (i := 1) (zd (i := .iload_n 1) (n := 1) (by decide +kernel)) rfl rfl <|
  bb_iload_n (n := 3) (i := 3) (zd (i := .iload_n 3) (n := 1) (by decide +kernel)) rfl rfl <|
  bb_lift (fun _ => q_iadd (zd (i := .iadd) (n := 1) (by decide +kernel))) <|
  bb_callVI (idx := 181) (k := 292) (ci := 9) (N := n_X9_byteAt) (As := [.int (a1 + a3)]) (st := []) (zd (i := .invokevirtual 181) (n := 3) (by decide +kernel)) to_X9_byteAt g1344 g1346 g46 (Nat.le_of_ble_eq_true rfl) (by decide +kernel) (by decide +kernel) (by decide +kernel) rfl rfl rfl hc kk
theorem w_X9_cut_215 {Q : qQ} {I : qMI} {L : qML} {R : qMR} {a1 : Int32} {a2 : Int32} {a3 : Int32} {a4 : Int32} {s0 : Int32} {P : Int32 → qMI → qML → Prop} (hc : wkI l G d n_X9_isDigit [.int s0] I L R P) (kk : ∀ y I' L', P y I' L' → wkB l G (d + 1) n_X9_cut Q 218 [.ref 292, .int a1, .int a2, .int a3, .int a4, wkU, wkU, wkU] [.int y] I' L' R) : wkB l G (d + 1) n_X9_cut Q 215 [.ref 292, .int a1, .int a2, .int a3, .int a4, wkU, wkU, wkU] [.int s0] I L R :=
  bb_callSI (idx := 193) (N := n_X9_isDigit) (As := [.int s0]) (st := []) (zd (i := .invokestatic 193) (n := 3) (by decide +kernel)) to_X9_isDigit g1355 g1356 (Nat.le_of_ble_eq_true rfl) rfl rfl hc kk
theorem w_X9_cut_218 {Q : qQ} {I : qMI} {L : qML} {R : qMR} {a1 : Int32} {a2 : Int32} {a3 : Int32} {a4 : Int32} {s0 : Int32} (kt : s0 = 0 → wkB l G (d + 1) n_X9_cut Q 250 [.ref 292, .int a1, .int a2, .int a3, .int a4, wkU, wkU, wkU] [] I L R) (kf : ¬ s0 = 0 → wkB l G (d + 1) n_X9_cut Q 221 [.ref 292, .int a1, .int a2, .int a3, .int a4, wkU, wkU, wkU] [] I L R) : wkB l G (d + 1) n_X9_cut Q 218 [.ref 292, .int a1, .int a2, .int a3, .int a4, wkU, wkU, wkU] [.int s0] I L R :=
  (fun lv hl => q_if_eq (off := 32) (tgt := 250) (zd (i := .ifCond .eq (32)) (n := 3) (by decide +kernel)) (by decide) (fun h => (kt h) lv hl) (fun h => (kf h) lv hl))
theorem w_X9_cut_221 {Q : qQ} {I : qMI} {L : qML} {R : qMR} {a1 : Int32} {a2 : Int32} {a3 : Int32} {a4 : Int32} (kt : 4 ≤ a3 → wkB l G (d + 1) n_X9_cut Q 244 [.ref 292, .int a1, .int a2, .int a3, .int a4, wkU, wkU, wkU] [] I L R) (kf : ¬ 4 ≤ a3 → wkB l G (d + 1) n_X9_cut Q 226 [.ref 292, .int a1, .int a2, .int a3, .int a4, wkU, wkU, wkU] [] I L R) : wkB l G (d + 1) n_X9_cut Q 221 [.ref 292, .int a1, .int a2, .int a3, .int a4, wkU, wkU, wkU] [] I L R :=
  bb_iload_n (n := 3) (i := 3) (zd (i := .iload_n 3) (n := 1) (by decide +kernel)) rfl rfl <|
  bb_lift (fun _ => q_iconst (n := 4) (zd (i := .iconst (4)) (n := 1) (by decide +kernel)) rfl) <|
  (fun lv hl => q_icmp_ge (off := 21) (tgt := 244) (zd (i := .if_icmp .ge (21)) (n := 3) (by decide +kernel)) (by decide) (fun h => (kt h) lv hl) (fun h => (kf h) lv hl))
theorem w_X9_cut_226 {Q : qQ} {I : qMI} {L : qML} {R : qMR} {a1 : Int32} {a2 : Int32} {a3 : Int32} {a4 : Int32} {P : Int32 → qMI → qML → Prop} (hc : wkI l G d n_X9_byteAt [.ref 292, .int (a1 + a3)] I L R P) (kk : ∀ y I' L', P y I' L' → wkB l G (d + 1) n_X9_cut Q 238 [.ref 292, .int a1, .int a2, .int a3, .int a4, wkU, wkU, wkU] [.int y, .int (10 * a4)] I' L' R) : wkB l G (d + 1) n_X9_cut Q 226 [.ref 292, .int a1, .int a2, .int a3, .int a4, wkU, wkU, wkU] [] I L R :=
  bb_lift (fun _ => q_bipush (n := 10) (zd (i := .bipush (10)) (n := 2) (by decide +kernel)) rfl) <|
  bb_iload (i := 4) (zd (i := .iload 4) (n := 2) (by decide +kernel)) rfl <|
  bb_lift (fun _ => q_imul (zd (i := .imul) (n := 1) (by decide +kernel))) <|
  bb_aload_n (n := 0) (i := 0) (zd (i := .aload_n 0) (n := 1) (by decide +kernel)) rfl rfl <|
  bb_iload_n (n := 1) (i := 1) (zd (i := .iload_n 1) (n := 1) (by decide +kernel)) rfl rfl <|
  bb_iload_n (n := 3) (i := 3) (zd (i := .iload_n 3) (n := 1) (by decide +kernel)) rfl rfl <|
  bb_lift (fun _ => q_iadd (zd (i := .iadd) (n := 1) (by decide +kernel))) <|
  bb_callVI (idx := 181) (k := 292) (ci := 9) (N := n_X9_byteAt) (As := [.int (a1 + a3)]) (st := [.int (10 * a4)]) (zd (i := .invokevirtual 181) (n := 3) (by decide +kernel)) to_X9_byteAt g1344 g1346 g46 (Nat.le_of_ble_eq_true rfl) (by decide +kernel) (by decide +kernel) (by decide +kernel) rfl rfl rfl hc kk
theorem w_X9_cut_238 {Q : qQ} {I : qMI} {L : qML} {R : qMR} {a1 : Int32} {a2 : Int32} {a3 : Int32} {a4 : Int32} {s0 : Int32} {s1 : Int32} (k : wkB l G (d + 1) n_X9_cut Q 244 [.ref 292, .int a1, .int a2, .int a3, .int ((s0 + s1) - 48), wkU, wkU, wkU] [] I L R) : wkB l G (d + 1) n_X9_cut Q 238 [.ref 292, .int a1, .int a2, .int a3, .int a4, wkU, wkU, wkU] [.int s1, .int s0] I L R :=
  bb_lift (fun _ => q_iadd (zd (i := .iadd) (n := 1) (by decide +kernel))) <|
  bb_lift (fun _ => q_bipush (n := 48) (zd (i := .bipush (48)) (n := 2) (by decide +kernel)) rfl) <|
  bb_lift (fun _ => q_isub (zd (i := .isub) (n := 1) (by decide +kernel))) <|
  bb_istore (i := 4) (zd (i := .istore 4) (n := 2) (by decide +kernel)) (by decide +kernel) (wkNl_i rfl) <|
  k
theorem w_X9_cut_244 {Q : qQ} {I : qMI} {L : qML} {R : qMR} {a1 : Int32} {a2 : Int32} {a3 : Int32} {a4 : Int32} (k : wkB l G (d + 1) n_X9_cut Q 208 [.ref 292, .int a1, .int a2, .int (a3 + 1), .int a4, wkU, wkU, wkU] [] I L R) : wkB l G (d + 1) n_X9_cut Q 244 [.ref 292, .int a1, .int a2, .int a3, .int a4, wkU, wkU, wkU] [] I L R :=
  bb_iinc (i := 3) (n := 1) (zd (i := .iinc 3 (1)) (n := 3) (by decide +kernel)) rfl rfl (by decide +kernel) (wkNl_i rfl) <|
  bb_lift (fun _ => q_goto (off := -39) (tgt := 208) (zd (i := .goto (-39)) (n := 3) (by decide +kernel)) (by decide)) k
theorem w_X9_cut_250 {Q : qQ} {I : qMI} {L : qML} {R : qMR} {a1 : Int32} {a2 : Int32} {a3 : Int32} {a4 : Int32} (kt : a3 ≤ 4 → wkB l G (d + 1) n_X9_cut Q 260 [.ref 292, .int a1, .int a2, .int a3, .int a4, wkU, wkU, wkU] [.ref 292] I L R) (kf : ¬ a3 ≤ 4 → wkB l G (d + 1) n_X9_cut Q 256 [.ref 292, .int a1, .int a2, .int a3, .int a4, wkU, wkU, wkU] [.ref 292] I L R) : wkB l G (d + 1) n_X9_cut Q 250 [.ref 292, .int a1, .int a2, .int a3, .int a4, wkU, wkU, wkU] [] I L R :=
  bb_aload_n (n := 0) (i := 0) (zd (i := .aload_n 0) (n := 1) (by decide +kernel)) rfl rfl <|
  bb_iload_n (n := 3) (i := 3) (zd (i := .iload_n 3) (n := 1) (by decide +kernel)) rfl rfl <|
  bb_lift (fun _ => q_iconst (n := 4) (zd (i := .iconst (4)) (n := 1) (by decide +kernel)) rfl) <|
  (fun lv hl => q_icmp_le (off := 7) (tgt := 260) (zd (i := .if_icmp .le (7)) (n := 3) (by decide +kernel)) (by decide) (fun h => (kt h) lv hl) (fun h => (kf h) lv hl))
theorem w_X9_cut_256 {Q : qQ} {I : qMI} {L : qML} {R : qMR} {a1 : Int32} {a2 : Int32} {a3 : Int32} {a4 : Int32} (k : wkB l G (d + 1) n_X9_cut Q 261 [.ref 292, .int a1, .int a2, .int a3, .int a4, wkU, wkU, wkU] [.int 3, .ref 292] I L R) : wkB l G (d + 1) n_X9_cut Q 256 [.ref 292, .int a1, .int a2, .int a3, .int a4, wkU, wkU, wkU] [.ref 292] I L R :=
  bb_lift (fun _ => q_iconst (n := 3) (zd (i := .iconst (3)) (n := 1) (by decide +kernel)) rfl) <|
  bb_lift (fun _ => q_goto (off := 4) (tgt := 261) (zd (i := .goto (4)) (n := 3) (by decide +kernel)) (by decide)) k
theorem w_X9_cut_260 {Q : qQ} {I : qMI} {L : qML} {R : qMR} {a1 : Int32} {a2 : Int32} {a3 : Int32} {a4 : Int32} (k : wkB l G (d + 1) n_X9_cut Q 261 [.ref 292, .int a1, .int a2, .int a3, .int a4, wkU, wkU, wkU] [.int 2, .ref 292] I L R) : wkB l G (d + 1) n_X9_cut Q 260 [.ref 292, .int a1, .int a2, .int a3, .int a4, wkU, wkU, wkU] [.ref 292] I L R :=
  bb_lift (fun _ => q_iconst (n := 2) (zd (i := .iconst (2)) (n := 1) (by decide +kernel)) rfl) <|
  k
theorem w_X9_cut_261 {Q : qQ} {I : qMI} {L : qML} {R : qMR} {a1 : Int32} {a2 : Int32} {a3 : Int32} {a4 : Int32} {s1 : Int32} {P : qMI → qML → Prop} (hc : wkV l G d n_X9_token [.ref 292, .int s1, .int a1, .int a4, .long 0] I L R P) (kk : ∀ I' L', P I' L' → wkB l G (d + 1) n_X9_cut Q 268 [.ref 292, .int a1, .int a2, .int a3, .int a4, wkU, wkU, wkU] [] I' L' R) : wkB l G (d + 1) n_X9_cut Q 261 [.ref 292, .int a1, .int a2, .int a3, .int a4, wkU, wkU, wkU] [.int s1, .ref 292] I L R :=
  bb_iload_n (n := 1) (i := 1) (zd (i := .iload_n 1) (n := 1) (by decide +kernel)) rfl rfl <|
  bb_iload (i := 4) (zd (i := .iload 4) (n := 2) (by decide +kernel)) rfl <|
  bb_lift (fun _ => q_lconst (n := 0) (zd (i := .lconst 0) (n := 1) (by decide +kernel)) rfl) <|
  bb_callVV (idx := 185) (k := 292) (ci := 9) (N := n_X9_token) (As := [.int s1, .int a1, .int a4, .long 0]) (st := []) (zd (i := .invokevirtual 185) (n := 3) (by decide +kernel)) to_X9_token g1348 g1350 g47 (Nat.le_of_ble_eq_true rfl) (by decide +kernel) (by decide +kernel) (by decide +kernel) rfl rfl rfl hc kk
theorem w_X9_cut_268 {Q : qQ} {I : qMI} {L : qML} {R : qMR} {a1 : Int32} {a2 : Int32} {a3 : Int32} {a4 : Int32} (k : wkB l G (d + 1) n_X9_cut Q 291 [.ref 292, .int (a1 + a3), .int a2, wkU, wkU, wkU, wkU, wkU] [] I L R) : wkB l G (d + 1) n_X9_cut Q 268 [.ref 292, .int a1, .int a2, .int a3, .int a4, wkU, wkU, wkU] [] I L R :=
  bb_iload_n (n := 1) (i := 1) (zd (i := .iload_n 1) (n := 1) (by decide +kernel)) rfl rfl <|
  bb_iload_n (n := 3) (i := 3) (zd (i := .iload_n 3) (n := 1) (by decide +kernel)) rfl rfl <|
  bb_lift (fun _ => q_iadd (zd (i := .iadd) (n := 1) (by decide +kernel))) <|
  bb_istore_n (n := 1) (i := 1) (zd (i := .istore_n 1) (n := 1) (by decide +kernel)) rfl (by decide +kernel) (wkNl_r rfl) <|
  bb_lift (fun _ => q_goto (off := 19) (tgt := 291) (zd (i := .goto (19)) (n := 3) (by decide +kernel)) (by decide)) (wkB_le (vs := [.ref 292, .int (a1 + a3), .int a2, wkU, wkU, wkU, wkU, wkU]) (ws := [.ref 292, .int (a1 + a3), .int a2, .int a3, .int a4, wkU, wkU, wkU]) ⟨Or.inr rfl, Or.inr rfl, Or.inr rfl, Or.inl rfl, Or.inl rfl, Or.inr rfl, Or.inr rfl, Or.inr rfl, trivial⟩ (k))
theorem w_X9_cut_275 {Q : qQ} {I : qMI} {L : qML} {R : qMR} {a1 : Int32} {a2 : Int32} {P : Int32 → qMI → qML → Prop} (hc : wkI l G d n_X9_byteAt [.ref 292, .int (a1 + 1)] I L R P) (kk : ∀ y I' L', P y I' L' → wkB l G (d + 1) n_X9_cut Q 286 [.ref 292, .int a1, .int a2, wkU, wkU, wkU, wkU, wkU] [.int y, .int a2, .int a1, .ref 292, .int a1] I' L' R) : wkB l G (d + 1) n_X9_cut Q 275 [.ref 292, .int a1, .int a2, wkU, wkU, wkU, wkU, wkU] [] I L R :=
  bb_iload_n (n := 1) (i := 1) (zd (i := .iload_n 1) (n := 1) (by decide +kernel)) rfl rfl <|
  bb_aload_n (n := 0) (i := 0) (zd (i := .aload_n 0) (n := 1) (by decide +kernel)) rfl rfl <|
  bb_iload_n (n := 1) (i := 1) (zd (i := .iload_n 1) (n := 1) (by decide +kernel)) rfl rfl <|
  bb_iload_n (n := 2) (i := 2) (zd (i := .iload_n 2) (n := 1) (by decide +kernel)) rfl rfl <|
  bb_aload_n (n := 0) (i := 0) (zd (i := .aload_n 0) (n := 1) (by decide +kernel)) rfl rfl <|
  bb_iload_n (n := 1) (i := 1) (zd (i := .iload_n 1) (n := 1) (by decide +kernel)) rfl rfl <|
  bb_lift (fun _ => q_iconst (n := 1) (zd (i := .iconst (1)) (n := 1) (by decide +kernel)) rfl) <|
  bb_lift (fun _ => q_iadd (zd (i := .iadd) (n := 1) (by decide +kernel))) <|
  bb_callVI (idx := 181) (k := 292) (ci := 9) (N := n_X9_byteAt) (As := [.int (a1 + 1)]) (st := [.int a2, .int a1, .ref 292, .int a1]) (zd (i := .invokevirtual 181) (n := 3) (by decide +kernel)) to_X9_byteAt g1344 g1346 g46 (Nat.le_of_ble_eq_true rfl) (by decide +kernel) (by decide +kernel) (by decide +kernel) rfl rfl rfl hc kk
theorem w_X9_cut_286 {Q : qQ} {I : qMI} {L : qML} {R : qMR} {a1 : Int32} {a2 : Int32} {s0 : Int32} {s2 : Int32} {s3 : Int32} {s4 : Int32} {P : Int32 → qMI → qML → Prop} (hc : wkI l G d n_X9_sign [.ref 292, .int s2, .int s3, .int s4] I L R P) (kk : ∀ y I' L', P y I' L' → wkB l G (d + 1) n_X9_cut Q 289 [.ref 292, .int a1, .int a2, wkU, wkU, wkU, wkU, wkU] [.int y, .int s0] I' L' R) : wkB l G (d + 1) n_X9_cut Q 286 [.ref 292, .int a1, .int a2, wkU, wkU, wkU, wkU, wkU] [.int s4, .int s3, .int s2, .ref 292, .int s0] I L R :=
  bb_callVI (idx := 196) (k := 292) (ci := 9) (N := n_X9_sign) (As := [.int s2, .int s3, .int s4]) (st := [.int s0]) (zd (i := .invokevirtual 196) (n := 3) (by decide +kernel)) to_X9_sign g1358 g1360 g48 (Nat.le_of_ble_eq_true rfl) (by decide +kernel) (by decide +kernel) (by decide +kernel) rfl rfl rfl hc kk
theorem w_X9_cut_289 {Q : qQ} {I : qMI} {L : qML} {R : qMR} {a1 : Int32} {a2 : Int32} {s0 : Int32} {s1 : Int32} (k : wkB l G (d + 1) n_X9_cut Q 291 [.ref 292, .int (s0 + s1), .int a2, wkU, wkU, wkU, wkU, wkU] [] I L R) : wkB l G (d + 1) n_X9_cut Q 289 [.ref 292, .int a1, .int a2, wkU, wkU, wkU, wkU, wkU] [.int s1, .int s0] I L R :=
  bb_lift (fun _ => q_iadd (zd (i := .iadd) (n := 1) (by decide +kernel))) <|
  bb_istore_n (n := 1) (i := 1) (zd (i := .istore_n 1) (n := 1) (by decide +kernel)) rfl (by decide +kernel) (wkNl_r rfl) <|
  k
theorem w_X9_cut_291 {Q : qQ} {I : qMI} {L : qML} {R : qMR} {a1 : Int32} {a2 : Int32} (k : wkB l G (d + 1) n_X9_cut Q 7 [.ref 292, .int a1, wkU, wkU, wkU, wkU, wkU, wkU] [] I L R) : wkB l G (d + 1) n_X9_cut Q 291 [.ref 292, .int a1, .int a2, wkU, wkU, wkU, wkU, wkU] [] I L R :=
  bb_lift (fun _ => q_goto (off := -284) (tgt := 7) (zd (i := .goto (-284)) (n := 3) (by decide +kernel)) (by decide)) (wkB_le (vs := [.ref 292, .int a1, wkU, wkU, wkU, wkU, wkU, wkU]) (ws := [.ref 292, .int a1, .int a2, wkU, wkU, wkU, wkU, wkU]) ⟨Or.inr rfl, Or.inr rfl, Or.inl rfl, Or.inr rfl, Or.inr rfl, Or.inr rfl, Or.inr rfl, Or.inr rfl, trivial⟩ (k))
theorem w_X9_cut_294 {Q : qQ} {I : qMI} {L : qML} {R : qMR} {a1 : Int32} (hQ : Q none 336 I L R) : wkB l G (d + 1) n_X9_cut Q 294 [.ref 292, .int a1, wkU, wkU, wkU, wkU, wkU, wkU] [] I L R :=
  (fun lv hl => q_vret (zd (i := .return_) (n := 1) (by decide +kernel)) rfl (Nat.le_refl _) (Nat.le_refl _) hQ)
end
