section
variable {l : Launch} {G : qG} {d : Nat}
def n_X9_read : qMn := (yX9_read, cX9_read, 2, (some Jvm.ClassFile.FieldType.int), 0, 0)
theorem to_X9_read : qTo n_X9_read 0 := ⟨g1339, g110, ⟨by decide, by decide, by decide +kernel⟩, by decide⟩
theorem w_X9_read_0 {Q : qQ} {I : qMI} {L : qML} {R : qMR}  (k : wkB l G (d + 1) n_X9_read Q 10 [.ref 292, .int 0] [] (qUp I 292 4 (I 292 2)) L R) : wkB l G (d + 1) n_X9_read Q 0 [.ref 292, wkU] [] I L R :=
  bb_aload_n (n := 0) (i := 0) (zd (i := .aload_n 0) (n := 1) (by decide +kernel)) rfl rfl <|
  bb_aload_n (n := 0) (i := 0) (zd (i := .aload_n 0) (n := 1) (by decide +kernel)) rfl rfl <|
  bb_geti (k := 292) (ci := 9) (j := 2) (idx := 167) (zd (i := .getfield 167) (n := 3) (by decide +kernel)) (by decide +kernel) (by decide +kernel) (by decide +kernel) (by decide +kernel) rfl g1130 <|
  bb_puti (k := 292) (ci := 9) (j := 4) (idx := 173) (zd (i := .putfield 173) (n := 3) (by decide +kernel)) (by decide +kernel) (by decide +kernel) (by decide +kernel) (by decide +kernel) g1132 rfl rfl <|
  bb_lift (fun _ => q_iconst (n := 0) (zd (i := .iconst (0)) (n := 1) (by decide +kernel)) rfl) <|
  bb_istore_n (n := 1) (i := 1) (zd (i := .istore_n 1) (n := 1) (by decide +kernel)) rfl (by decide +kernel) (wkNl_r rfl) <|
  k
theorem w_X9_read_10 {Q : qQ} {I : qMI} {L : qML} {R : qMR} {a1 : Int32} (kt : (I 292 4) ≤ a1 → wkB l G (d + 1) n_X9_read Q 36 [.ref 292, .int a1] [] I L R) (kf : ¬ (I 292 4) ≤ a1 → wkB l G (d + 1) n_X9_read Q 18 [.ref 292, .int a1] [] I L R) : wkB l G (d + 1) n_X9_read Q 10 [.ref 292, .int a1] [] I L R :=
  bb_iload_n (n := 1) (i := 1) (zd (i := .iload_n 1) (n := 1) (by decide +kernel)) rfl rfl <|
  bb_aload_n (n := 0) (i := 0) (zd (i := .aload_n 0) (n := 1) (by decide +kernel)) rfl rfl <|
  bb_geti (k := 292) (ci := 9) (j := 4) (idx := 173) (zd (i := .getfield 173) (n := 3) (by decide +kernel)) (by decide +kernel) (by decide +kernel) (by decide +kernel) (by decide +kernel) rfl g1132 <|
  (fun lv hl => q_icmp_ge (off := 21) (tgt := 36) (zd (i := .if_icmp .ge (21)) (n := 3) (by decide +kernel)) (by decide) (fun h => (kt h) lv hl) (fun h => (kf h) lv hl))
theorem w_X9_read_18 {Q : qQ} {I : qMI} {L : qML} {R : qMR} (hR : wkR R) {a1 : Int32} (h1 : vp_in a1 2000) (h2 : vp_in a1 2000) (k : wkB l G (d + 1) n_X9_read Q 10 [.ref 292, .int (a1 + 1)] [] (qUp I 294 a1.toNatClampNeg (vp_nar .byte (I 293 a1.toNatClampNeg))) L R) : wkB l G (d + 1) n_X9_read Q 18 [.ref 292, .int a1] [] I L R :=
  bb_aload_n (n := 0) (i := 0) (zd (i := .aload_n 0) (n := 1) (by decide +kernel)) rfl rfl <|
  bb_getr (k := 292) (ci := 9) (j := 3) (idx := 17) (a := 294) (zd (i := .getfield 17) (n := 3) (by decide +kernel)) (by decide +kernel) (by decide +kernel) (by decide +kernel) (by decide +kernel) rfl g1131 (hR 3 (by decide)) <|
  bb_iload_n (n := 1) (i := 1) (zd (i := .iload_n 1) (n := 1) (by decide +kernel)) rfl rfl <|
  bb_aload_n (n := 0) (i := 0) (zd (i := .aload_n 0) (n := 1) (by decide +kernel)) rfl rfl <|
  bb_getr (k := 292) (ci := 9) (j := 1) (idx := 13) (a := 293) (zd (i := .getfield 13) (n := 3) (by decide +kernel)) (by decide +kernel) (by decide +kernel) (by decide +kernel) (by decide +kernel) rfl g1129 (hR 1 (by decide)) <|
  bb_iload_n (n := 1) (i := 1) (zd (i := .iload_n 1) (n := 1) (by decide +kernel)) rfl rfl <|
  bb_lift (fun _ => q_bald (k := 293) (zd (i := .baload) (n := 1) (by decide +kernel)) (by decide +kernel) (by decide +kernel) h1) <|
  bb_lift (fun _ => q_bast (k := 294) (zd (i := .bastore) (n := 1) (by decide +kernel)) (by decide +kernel) (by decide +kernel) h2) <|
  bb_iinc (i := 1) (n := 1) (zd (i := .iinc 1 (1)) (n := 3) (by decide +kernel)) rfl rfl (by decide +kernel) (wkNl_r rfl) <|
  bb_lift (fun _ => q_goto (off := -23) (tgt := 10) (zd (i := .goto (-23)) (n := 3) (by decide +kernel)) (by decide)) k
theorem w_X9_read_36 {Q : qQ} {I : qMI} {L : qML} {R : qMR} {a1 : Int32} {P : qMI → qML → Prop} (hc : wkV l G d n_X9_cut [.ref 292] (qUp I 292 2 0) L R P) (kk : ∀ I' L', P I' L' → wkB l G (d + 1) n_X9_read Q 45 [.ref 292, .int a1] [] I' L' R) : wkB l G (d + 1) n_X9_read Q 36 [.ref 292, .int a1] [] I L R :=
  bb_aload_n (n := 0) (i := 0) (zd (i := .aload_n 0) (n := 1) (by decide +kernel)) rfl rfl <|
  bb_lift (fun _ => q_iconst (n := 0) (zd (i := .iconst (0)) (n := 1) (by decide +kernel)) rfl) <|
  bb_puti (k := 292) (ci := 9) (j := 2) (idx := 167) (zd (i := .putfield 167) (n := 3) (by decide +kernel)) (by decide +kernel) (by decide +kernel) (by decide +kernel) (by decide +kernel) g1130 rfl rfl <|
  bb_aload_n (n := 0) (i := 0) (zd (i := .aload_n 0) (n := 1) (by decide +kernel)) rfl rfl <|
  bb_callVV (idx := 224) (k := 292) (ci := 9) (N := n_X9_cut) (As := []) (st := []) (zd (i := .invokevirtual 224) (n := 3) (by decide +kernel)) to_X9_cut g1340 g1342 g45 (Nat.le_of_ble_eq_true rfl) (by decide +kernel) (by decide +kernel) (by decide +kernel) rfl rfl rfl hc kk
theorem w_X9_read_45 {Q : qQ} {I : qMI} {L : qML} {R : qMR} {a1 : Int32} {P : qMI → qML → Prop} (hc : wkV l G d n_X9_plain [.ref 292, .int ((qUp (qUp (qUp (qUp (qUp (qUp I 292 11 0) 292 12 0) 292 13 0) 292 15 0) 292 19 (1 - ((qUp (qUp (qUp (qUp I 292 11 0) 292 12 0) 292 13 0) 292 15 0) 292 18))) 292 20 0) 292 19)] (qUp (qUp (qUp (qUp (qUp (qUp I 292 11 0) 292 12 0) 292 13 0) 292 15 0) 292 19 (1 - ((qUp (qUp (qUp (qUp I 292 11 0) 292 12 0) 292 13 0) 292 15 0) 292 18))) 292 20 0) L R P) (kk : ∀ I' L', P I' L' → wkB l G (d + 1) n_X9_read Q 88 [.ref 292, .int a1] [] I' L' R) : wkB l G (d + 1) n_X9_read Q 45 [.ref 292, .int a1] [] I L R :=
  bb_aload_n (n := 0) (i := 0) (zd (i := .aload_n 0) (n := 1) (by decide +kernel)) rfl rfl <|
  bb_lift (fun _ => q_iconst (n := 0) (zd (i := .iconst (0)) (n := 1) (by decide +kernel)) rfl) <|
  bb_puti (k := 292) (ci := 9) (j := 11) (idx := 203) (zd (i := .putfield 203) (n := 3) (by decide +kernel)) (by decide +kernel) (by decide +kernel) (by decide +kernel) (by decide +kernel) g1139 rfl rfl <|
  bb_aload_n (n := 0) (i := 0) (zd (i := .aload_n 0) (n := 1) (by decide +kernel)) rfl rfl <|
  bb_lift (fun _ => q_iconst (n := 0) (zd (i := .iconst (0)) (n := 1) (by decide +kernel)) rfl) <|
  bb_puti (k := 292) (ci := 9) (j := 12) (idx := 227) (zd (i := .putfield 227) (n := 3) (by decide +kernel)) (by decide +kernel) (by decide +kernel) (by decide +kernel) (by decide +kernel) g1140 rfl rfl <|
  bb_aload_n (n := 0) (i := 0) (zd (i := .aload_n 0) (n := 1) (by decide +kernel)) rfl rfl <|
  bb_lift (fun _ => q_iconst (n := 0) (zd (i := .iconst (0)) (n := 1) (by decide +kernel)) rfl) <|
  bb_puti (k := 292) (ci := 9) (j := 13) (idx := 200) (zd (i := .putfield 200) (n := 3) (by decide +kernel)) (by decide +kernel) (by decide +kernel) (by decide +kernel) (by decide +kernel) g1141 rfl rfl <|
  bb_aload_n (n := 0) (i := 0) (zd (i := .aload_n 0) (n := 1) (by decide +kernel)) rfl rfl <|
  bb_lift (fun _ => q_iconst (n := 0) (zd (i := .iconst (0)) (n := 1) (by decide +kernel)) rfl) <|
  bb_puti (k := 292) (ci := 9) (j := 15) (idx := 209) (zd (i := .putfield 209) (n := 3) (by decide +kernel)) (by decide +kernel) (by decide +kernel) (by decide +kernel) (by decide +kernel) g1143 rfl rfl <|
  bb_aload_n (n := 0) (i := 0) (zd (i := .aload_n 0) (n := 1) (by decide +kernel)) rfl rfl <|
  bb_lift (fun _ => q_iconst (n := 1) (zd (i := .iconst (1)) (n := 1) (by decide +kernel)) rfl) <|
  bb_aload_n (n := 0) (i := 0) (zd (i := .aload_n 0) (n := 1) (by decide +kernel)) rfl rfl <|
  bb_geti (k := 292) (ci := 9) (j := 18) (idx := 230) (zd (i := .getfield 230) (n := 3) (by decide +kernel)) (by decide +kernel) (by decide +kernel) (by decide +kernel) (by decide +kernel) rfl g1146 <|
  bb_lift (fun _ => q_isub (zd (i := .isub) (n := 1) (by decide +kernel))) <|
  bb_puti (k := 292) (ci := 9) (j := 19) (idx := 233) (zd (i := .putfield 233) (n := 3) (by decide +kernel)) (by decide +kernel) (by decide +kernel) (by decide +kernel) (by decide +kernel) g1147 rfl rfl <|
  bb_aload_n (n := 0) (i := 0) (zd (i := .aload_n 0) (n := 1) (by decide +kernel)) rfl rfl <|
  bb_lift (fun _ => q_iconst (n := 0) (zd (i := .iconst (0)) (n := 1) (by decide +kernel)) rfl) <|
  bb_puti (k := 292) (ci := 9) (j := 20) (idx := 236) (zd (i := .putfield 236) (n := 3) (by decide +kernel)) (by decide +kernel) (by decide +kernel) (by decide +kernel) (by decide +kernel) g1148 rfl rfl <|
  bb_aload_n (n := 0) (i := 0) (zd (i := .aload_n 0) (n := 1) (by decide +kernel)) rfl rfl <|
  bb_aload_n (n := 0) (i := 0) (zd (i := .aload_n 0) (n := 1) (by decide +kernel)) rfl rfl <|
  bb_geti (k := 292) (ci := 9) (j := 19) (idx := 233) (zd (i := .getfield 233) (n := 3) (by decide +kernel)) (by decide +kernel) (by decide +kernel) (by decide +kernel) (by decide +kernel) rfl g1147 <|
  bb_callVV (idx := 149) (k := 292) (ci := 9) (N := n_X9_plain) (As := [.int ((qUp (qUp (qUp (qUp (qUp (qUp I 292 11 0) 292 12 0) 292 13 0) 292 15 0) 292 19 (1 - ((qUp (qUp (qUp (qUp I 292 11 0) 292 12 0) 292 13 0) 292 15 0) 292 18))) 292 20 0) 292 19)]) (st := []) (zd (i := .invokevirtual 149) (n := 3) (by decide +kernel)) to_X9_plain g1110 g1112 g41 (Nat.le_of_ble_eq_true rfl) (by decide +kernel) (by decide +kernel) (by decide +kernel) rfl rfl rfl hc kk
theorem w_X9_read_88 {Q : qQ} {I : qMI} {L : qML} {R : qMR} {a1 : Int32} (k : wkB l G (d + 1) n_X9_read Q 112 [.ref 292, .int a1] [] (qUp (qUp I 292 34 (130 * (I 292 19))) 292 40 (420 * ((qUp I 292 34 (130 * (I 292 19))) 292 19))) L R) : wkB l G (d + 1) n_X9_read Q 88 [.ref 292, .int a1] [] I L R :=
  bb_aload_n (n := 0) (i := 0) (zd (i := .aload_n 0) (n := 1) (by decide +kernel)) rfl rfl <|
  bb_lift (fun _ => q_sipush (n := 130) (zd (i := .sipush (130)) (n := 3) (by decide +kernel)) rfl) <|
  bb_aload_n (n := 0) (i := 0) (zd (i := .aload_n 0) (n := 1) (by decide +kernel)) rfl rfl <|
  bb_geti (k := 292) (ci := 9) (j := 19) (idx := 233) (zd (i := .getfield 233) (n := 3) (by decide +kernel)) (by decide +kernel) (by decide +kernel) (by decide +kernel) (by decide +kernel) rfl g1147 <|
  bb_lift (fun _ => q_imul (zd (i := .imul) (n := 1) (by decide +kernel))) <|
  bb_puti (k := 292) (ci := 9) (j := 34) (idx := 239) (zd (i := .putfield 239) (n := 3) (by decide +kernel)) (by decide +kernel) (by decide +kernel) (by decide +kernel) (by decide +kernel) g1162 rfl rfl <|
  bb_aload_n (n := 0) (i := 0) (zd (i := .aload_n 0) (n := 1) (by decide +kernel)) rfl rfl <|
  bb_lift (fun _ => q_sipush (n := 420) (zd (i := .sipush (420)) (n := 3) (by decide +kernel)) rfl) <|
  bb_aload_n (n := 0) (i := 0) (zd (i := .aload_n 0) (n := 1) (by decide +kernel)) rfl rfl <|
  bb_geti (k := 292) (ci := 9) (j := 19) (idx := 233) (zd (i := .getfield 233) (n := 3) (by decide +kernel)) (by decide +kernel) (by decide +kernel) (by decide +kernel) (by decide +kernel) rfl g1147 <|
  bb_lift (fun _ => q_imul (zd (i := .imul) (n := 1) (by decide +kernel))) <|
  bb_puti (k := 292) (ci := 9) (j := 40) (idx := 242) (zd (i := .putfield 242) (n := 3) (by decide +kernel)) (by decide +kernel) (by decide +kernel) (by decide +kernel) (by decide +kernel) g1168 rfl rfl <|
  k
theorem w_X9_read_112 {Q : qQ} {I : qMI} {L : qML} {R : qMR} {a1 : Int32} (kt : ¬ (I 292 13) = 0 → wkB l G (d + 1) n_X9_read Q 134 [.ref 292, .int a1] [] I L R) (kf : (I 292 13) = 0 → wkB l G (d + 1) n_X9_read Q 119 [.ref 292, .int a1] [] I L R) : wkB l G (d + 1) n_X9_read Q 112 [.ref 292, .int a1] [] I L R :=
  bb_aload_n (n := 0) (i := 0) (zd (i := .aload_n 0) (n := 1) (by decide +kernel)) rfl rfl <|
  bb_geti (k := 292) (ci := 9) (j := 13) (idx := 200) (zd (i := .getfield 200) (n := 3) (by decide +kernel)) (by decide +kernel) (by decide +kernel) (by decide +kernel) (by decide +kernel) rfl g1141 <|
  (fun lv hl => q_if_ne (off := 18) (tgt := 134) (zd (i := .ifCond .ne (18)) (n := 3) (by decide +kernel)) (by decide) (fun h => (kt h) lv hl) (fun h => (kf h) lv hl))
theorem w_X9_read_119 {Q : qQ} {I : qMI} {L : qML} {R : qMR} {a1 : Int32} {P : Int32 → qMI → qML → Prop} (hc : wkI l G d n_X9_is [.ref 292, .int 0] I L R P) (kk : ∀ y I' L', P y I' L' → wkB l G (d + 1) n_X9_read Q 124 [.ref 292, .int a1] [.int y] I' L' R) : wkB l G (d + 1) n_X9_read Q 119 [.ref 292, .int a1] [] I L R :=
  bb_aload_n (n := 0) (i := 0) (zd (i := .aload_n 0) (n := 1) (by decide +kernel)) rfl rfl <|
  bb_lift (fun _ => q_iconst (n := 0) (zd (i := .iconst (0)) (n := 1) (by decide +kernel)) rfl) <|
  bb_callVI (idx := 218) (k := 292) (ci := 9) (N := n_X9_is) (As := [.int 0]) (st := []) (zd (i := .invokevirtual 218) (n := 3) (by decide +kernel)) to_X9_is g1362 g1364 g49 (Nat.le_of_ble_eq_true rfl) (by decide +kernel) (by decide +kernel) (by decide +kernel) rfl rfl rfl hc kk
theorem w_X9_read_124 {Q : qQ} {I : qMI} {L : qML} {R : qMR} {a1 : Int32} {s0 : Int32} (kt : ¬ s0 = 0 → wkB l G (d + 1) n_X9_read Q 134 [.ref 292, .int a1] [] I L R) (kf : s0 = 0 → wkB l G (d + 1) n_X9_read Q 127 [.ref 292, .int a1] [] I L R) : wkB l G (d + 1) n_X9_read Q 124 [.ref 292, .int a1] [.int s0] I L R :=
  (fun lv hl => q_if_ne (off := 10) (tgt := 134) (zd (i := .ifCond .ne (10)) (n := 3) (by decide +kernel)) (by decide) (fun h => (kt h) lv hl) (fun h => (kf h) lv hl))
theorem w_X9_read_127 {Q : qQ} {I : qMI} {L : qML} {R : qMR} {a1 : Int32} {P : qMI → qML → Prop} (hc : wkV l G d n_X9_tellOne [.ref 292] I L R P) (kk : ∀ I' L', P I' L' → wkB l G (d + 1) n_X9_read Q 131 [.ref 292, .int a1] [] I' L' R) : wkB l G (d + 1) n_X9_read Q 127 [.ref 292, .int a1] [] I L R :=
  bb_aload_n (n := 0) (i := 0) (zd (i := .aload_n 0) (n := 1) (by decide +kernel)) rfl rfl <|
  bb_callVV (idx := 245) (k := 292) (ci := 9) (N := n_X9_tellOne) (As := []) (st := []) (zd (i := .invokevirtual 245) (n := 3) (by decide +kernel)) to_X9_tellOne g1366 g1368 g50 (Nat.le_of_ble_eq_true rfl) (by decide +kernel) (by decide +kernel) (by decide +kernel) rfl rfl rfl hc kk
theorem w_X9_read_131 {Q : qQ} {I : qMI} {L : qML} {R : qMR} {a1 : Int32} (k : wkB l G (d + 1) n_X9_read Q 112 [.ref 292, .int a1] [] I L R) : wkB l G (d + 1) n_X9_read Q 131 [.ref 292, .int a1] [] I L R :=
  bb_lift (fun _ => q_goto (off := -19) (tgt := 112) (zd (i := .goto (-19)) (n := 3) (by decide +kernel)) (by decide)) k
theorem w_X9_read_134 {Q : qQ} {I : qMI} {L : qML} {R : qMR} {a1 : Int32} (kt : (I 292 13) ≤ 0 → wkB l G (d + 1) n_X9_read Q 149 [.ref 292, .int a1] [.ref 292] I L R) (kf : ¬ (I 292 13) ≤ 0 → wkB l G (d + 1) n_X9_read Q 142 [.ref 292, .int a1] [.ref 292] I L R) : wkB l G (d + 1) n_X9_read Q 134 [.ref 292, .int a1] [] I L R :=
  bb_aload_n (n := 0) (i := 0) (zd (i := .aload_n 0) (n := 1) (by decide +kernel)) rfl rfl <|
  bb_aload_n (n := 0) (i := 0) (zd (i := .aload_n 0) (n := 1) (by decide +kernel)) rfl rfl <|
  bb_geti (k := 292) (ci := 9) (j := 13) (idx := 200) (zd (i := .getfield 200) (n := 3) (by decide +kernel)) (by decide +kernel) (by decide +kernel) (by decide +kernel) (by decide +kernel) rfl g1141 <|
  (fun lv hl => q_if_le (off := 10) (tgt := 149) (zd (i := .ifCond .le (10)) (n := 3) (by decide +kernel)) (by decide) (fun h => (kt h) lv hl) (fun h => (kf h) lv hl))
theorem w_X9_read_142 {Q : qQ} {I : qMI} {L : qML} {R : qMR} {a1 : Int32} (k : wkB l G (d + 1) n_X9_read Q 164 [.ref 292, .int a1] [.int (I 292 14), .ref 292] I L R) : wkB l G (d + 1) n_X9_read Q 142 [.ref 292, .int a1] [.ref 292] I L R :=
  bb_aload_n (n := 0) (i := 0) (zd (i := .aload_n 0) (n := 1) (by decide +kernel)) rfl rfl <|
  bb_geti (k := 292) (ci := 9) (j := 14) (idx := 206) (zd (i := .getfield 206) (n := 3) (by decide +kernel)) (by decide +kernel) (by decide +kernel) (by decide +kernel) (by decide +kernel) rfl g1142 <|
  bb_lift (fun _ => q_goto (off := 18) (tgt := 164) (zd (i := .goto (18)) (n := 3) (by decide +kernel)) (by decide)) k
theorem w_X9_read_149 {Q : qQ} {I : qMI} {L : qML} {R : qMR} {a1 : Int32} (kt : (I 292 15) ≤ 0 → wkB l G (d + 1) n_X9_read Q 163 [.ref 292, .int a1] [.ref 292] I L R) (kf : ¬ (I 292 15) ≤ 0 → wkB l G (d + 1) n_X9_read Q 156 [.ref 292, .int a1] [.ref 292] I L R) : wkB l G (d + 1) n_X9_read Q 149 [.ref 292, .int a1] [.ref 292] I L R :=
  bb_aload_n (n := 0) (i := 0) (zd (i := .aload_n 0) (n := 1) (by decide +kernel)) rfl rfl <|
  bb_geti (k := 292) (ci := 9) (j := 15) (idx := 209) (zd (i := .getfield 209) (n := 3) (by decide +kernel)) (by decide +kernel) (by decide +kernel) (by decide +kernel) (by decide +kernel) rfl g1143 <|
  (fun lv hl => q_if_le (off := 10) (tgt := 163) (zd (i := .ifCond .le (10)) (n := 3) (by decide +kernel)) (by decide) (fun h => (kt h) lv hl) (fun h => (kf h) lv hl))
theorem w_X9_read_156 {Q : qQ} {I : qMI} {L : qML} {R : qMR} {a1 : Int32} (k : wkB l G (d + 1) n_X9_read Q 164 [.ref 292, .int a1] [.int (I 292 16), .ref 292] I L R) : wkB l G (d + 1) n_X9_read Q 156 [.ref 292, .int a1] [.ref 292] I L R :=
  bb_aload_n (n := 0) (i := 0) (zd (i := .aload_n 0) (n := 1) (by decide +kernel)) rfl rfl <|
  bb_geti (k := 292) (ci := 9) (j := 16) (idx := 212) (zd (i := .getfield 212) (n := 3) (by decide +kernel)) (by decide +kernel) (by decide +kernel) (by decide +kernel) (by decide +kernel) rfl g1144 <|
  bb_lift (fun _ => q_goto (off := 4) (tgt := 164) (zd (i := .goto (4)) (n := 3) (by decide +kernel)) (by decide)) k
theorem w_X9_read_163 {Q : qQ} {I : qMI} {L : qML} {R : qMR} {a1 : Int32} (k : wkB l G (d + 1) n_X9_read Q 164 [.ref 292, .int a1] [.int (-1), .ref 292] I L R) : wkB l G (d + 1) n_X9_read Q 163 [.ref 292, .int a1] [.ref 292] I L R :=
  bb_lift (fun _ => q_iconst (n := -1) (zd (i := .iconst (-1)) (n := 1) (by decide +kernel)) rfl) <|
  k
theorem w_X9_read_164 {Q : qQ} {I : qMI} {L : qML} {R : qMR} {a1 : Int32} {s1 : Int32} (kt : ((qUp I 292 17 s1) 292 13) ≤ 0 → wkB l G (d + 1) n_X9_read Q 179 [.ref 292, .int a1] [] (qUp I 292 17 s1) L R) (kf : ¬ ((qUp I 292 17 s1) 292 13) ≤ 0 → wkB l G (d + 1) n_X9_read Q 174 [.ref 292, .int a1] [] (qUp I 292 17 s1) L R) : wkB l G (d + 1) n_X9_read Q 164 [.ref 292, .int a1] [.int s1, .ref 292] I L R :=
  bb_puti (k := 292) (ci := 9) (j := 17) (idx := 37) (zd (i := .putfield 37) (n := 3) (by decide +kernel)) (by decide +kernel) (by decide +kernel) (by decide +kernel) (by decide +kernel) g1145 rfl rfl <|
  bb_aload_n (n := 0) (i := 0) (zd (i := .aload_n 0) (n := 1) (by decide +kernel)) rfl rfl <|
  bb_geti (k := 292) (ci := 9) (j := 13) (idx := 200) (zd (i := .getfield 200) (n := 3) (by decide +kernel)) (by decide +kernel) (by decide +kernel) (by decide +kernel) (by decide +kernel) rfl g1141 <|
  (fun lv hl => q_if_le (off := 8) (tgt := 179) (zd (i := .ifCond .le (8)) (n := 3) (by decide +kernel)) (by decide) (fun h => (kt h) lv hl) (fun h => (kf h) lv hl))
theorem w_X9_read_174 {Q : qQ} {I : qMI} {L : qML} {R : qMR} {a1 : Int32} (hQ : Q (some (.int (I 292 13))) 336 I L R) : wkB l G (d + 1) n_X9_read Q 174 [.ref 292, .int a1] [] I L R :=
  bb_aload_n (n := 0) (i := 0) (zd (i := .aload_n 0) (n := 1) (by decide +kernel)) rfl rfl <|
  bb_geti (k := 292) (ci := 9) (j := 13) (idx := 200) (zd (i := .getfield 200) (n := 3) (by decide +kernel)) (by decide +kernel) (by decide +kernel) (by decide +kernel) (by decide +kernel) rfl g1141 <|
  (fun lv hl => q_iret (zd (i := .ireturn) (n := 1) (by decide +kernel)) rfl rfl (Nat.le_refl _) (Nat.le_refl _) hQ)
theorem w_X9_read_179 {Q : qQ} {I : qMI} {L : qML} {R : qMR} {a1 : Int32} (kt : (I 292 15) ≤ 0 → wkB l G (d + 1) n_X9_read Q 191 [.ref 292, .int a1] [] I L R) (kf : ¬ (I 292 15) ≤ 0 → wkB l G (d + 1) n_X9_read Q 186 [.ref 292, .int a1] [] I L R) : wkB l G (d + 1) n_X9_read Q 179 [.ref 292, .int a1] [] I L R :=
  bb_aload_n (n := 0) (i := 0) (zd (i := .aload_n 0) (n := 1) (by decide +kernel)) rfl rfl <|
  bb_geti (k := 292) (ci := 9) (j := 15) (idx := 209) (zd (i := .getfield 209) (n := 3) (by decide +kernel)) (by decide +kernel) (by decide +kernel) (by decide +kernel) (by decide +kernel) rfl g1143 <|
  (fun lv hl => q_if_le (off := 8) (tgt := 191) (zd (i := .ifCond .le (8)) (n := 3) (by decide +kernel)) (by decide) (fun h => (kt h) lv hl) (fun h => (kf h) lv hl))
theorem w_X9_read_186 {Q : qQ} {I : qMI} {L : qML} {R : qMR} {a1 : Int32} (hQ : Q (some (.int (I 292 15))) 336 I L R) : wkB l G (d + 1) n_X9_read Q 186 [.ref 292, .int a1] [] I L R :=
  bb_aload_n (n := 0) (i := 0) (zd (i := .aload_n 0) (n := 1) (by decide +kernel)) rfl rfl <|
  bb_geti (k := 292) (ci := 9) (j := 15) (idx := 209) (zd (i := .getfield 209) (n := 3) (by decide +kernel)) (by decide +kernel) (by decide +kernel) (by decide +kernel) (by decide +kernel) rfl g1143 <|
  (fun lv hl => q_iret (zd (i := .ireturn) (n := 1) (by decide +kernel)) rfl rfl (Nat.le_refl _) (Nat.le_refl _) hQ)
theorem w_X9_read_191 {Q : qQ} {I : qMI} {L : qML} {R : qMR} {a1 : Int32} {P : qMI → qML → Prop} (hc : wkV l G d n_X9_begins [.ref 292] (qUp I 292 18 (I 292 19)) L R P) (kk : ∀ I' L', P I' L' → wkB l G (d + 1) n_X9_read Q 203 [.ref 292, .int a1] [] I' L' R) : wkB l G (d + 1) n_X9_read Q 191 [.ref 292, .int a1] [] I L R :=
  bb_aload_n (n := 0) (i := 0) (zd (i := .aload_n 0) (n := 1) (by decide +kernel)) rfl rfl <|
  bb_aload_n (n := 0) (i := 0) (zd (i := .aload_n 0) (n := 1) (by decide +kernel)) rfl rfl <|
  bb_geti (k := 292) (ci := 9) (j := 19) (idx := 233) (zd (i := .getfield 233) (n := 3) (by decide +kernel)) (by decide +kernel) (by decide +kernel) (by decide +kernel) (by decide +kernel) rfl g1147 <|
  bb_puti (k := 292) (ci := 9) (j := 18) (idx := 230) (zd (i := .putfield 230) (n := 3) (by decide +kernel)) (by decide +kernel) (by decide +kernel) (by decide +kernel) (by decide +kernel) g1146 rfl rfl <|
  bb_aload_n (n := 0) (i := 0) (zd (i := .aload_n 0) (n := 1) (by decide +kernel)) rfl rfl <|
  bb_callVV (idx := 161) (k := 292) (ci := 9) (N := n_X9_begins) (As := []) (st := []) (zd (i := .invokevirtual 161) (n := 3) (by decide +kernel)) to_X9_begins g1121 g1123 g42 (Nat.le_of_ble_eq_true rfl) (by decide +kernel) (by decide +kernel) (by decide +kernel) rfl rfl rfl hc kk
theorem w_X9_read_203 {Q : qQ} {I : qMI} {L : qML} {R : qMR} {a1 : Int32} {P : qMI → qML → Prop} (hc : wkV l G d n_X9_keepsRow [.ref 292] I L R P) (kk : ∀ I' L', P I' L' → wkB l G (d + 1) n_X9_read Q 207 [.ref 292, .int a1] [] I' L' R) : wkB l G (d + 1) n_X9_read Q 203 [.ref 292, .int a1] [] I L R :=
  bb_aload_n (n := 0) (i := 0) (zd (i := .aload_n 0) (n := 1) (by decide +kernel)) rfl rfl <|
  bb_callVV (idx := 164) (k := 292) (ci := 9) (N := n_X9_keepsRow) (As := []) (st := []) (zd (i := .invokevirtual 164) (n := 3) (by decide +kernel)) to_X9_keepsRow g1125 g1127 g43 (Nat.le_of_ble_eq_true rfl) (by decide +kernel) (by decide +kernel) (by decide +kernel) rfl rfl rfl hc kk
theorem w_X9_read_207 {Q : qQ} {I : qMI} {L : qML} {R : qMR} {a1 : Int32} (k : wkB l G (d + 1) n_X9_read Q 219 [.ref 292, .int 0] [] (qUp (qUp I 292 51 0) 292 58 0) L R) : wkB l G (d + 1) n_X9_read Q 207 [.ref 292, .int a1] [] I L R :=
  bb_aload_n (n := 0) (i := 0) (zd (i := .aload_n 0) (n := 1) (by decide +kernel)) rfl rfl <|
  bb_lift (fun _ => q_iconst (n := 0) (zd (i := .iconst (0)) (n := 1) (by decide +kernel)) rfl) <|
  bb_puti (k := 292) (ci := 9) (j := 51) (idx := 248) (zd (i := .putfield 248) (n := 3) (by decide +kernel)) (by decide +kernel) (by decide +kernel) (by decide +kernel) (by decide +kernel) g1179 rfl rfl <|
  bb_aload_n (n := 0) (i := 0) (zd (i := .aload_n 0) (n := 1) (by decide +kernel)) rfl rfl <|
  bb_lift (fun _ => q_iconst (n := 0) (zd (i := .iconst (0)) (n := 1) (by decide +kernel)) rfl) <|
  bb_puti (k := 292) (ci := 9) (j := 58) (idx := 251) (zd (i := .putfield 251) (n := 3) (by decide +kernel)) (by decide +kernel) (by decide +kernel) (by decide +kernel) (by decide +kernel) g1186 rfl rfl <|
  bb_lift (fun _ => q_iconst (n := 0) (zd (i := .iconst (0)) (n := 1) (by decide +kernel)) rfl) <|
  bb_istore_n (n := 1) (i := 1) (zd (i := .istore_n 1) (n := 1) (by decide +kernel)) rfl (by decide +kernel) (wkNl_r rfl) <|
  k
theorem w_X9_read_219 {Q : qQ} {I : qMI} {L : qML} {R : qMR} {a1 : Int32} (kt : 3 ≤ a1 → wkB l G (d + 1) n_X9_read Q 237 [.ref 292, .int a1] [] I L R) (kf : ¬ 3 ≤ a1 → wkB l G (d + 1) n_X9_read Q 224 [.ref 292, .int a1] [] I L R) : wkB l G (d + 1) n_X9_read Q 219 [.ref 292, .int a1] [] I L R :=
  bb_iload_n (n := 1) (i := 1) (zd (i := .iload_n 1) (n := 1) (by decide +kernel)) rfl rfl <|
  bb_lift (fun _ => q_iconst (n := 3) (zd (i := .iconst (3)) (n := 1) (by decide +kernel)) rfl) <|
  (fun lv hl => q_icmp_ge (off := 16) (tgt := 237) (zd (i := .if_icmp .ge (16)) (n := 3) (by decide +kernel)) (by decide) (fun h => (kt h) lv hl) (fun h => (kf h) lv hl))
theorem w_X9_read_224 {Q : qQ} {I : qMI} {L : qML} {R : qMR} (hR : wkR R) {a1 : Int32} (h1 : vp_in a1 3) (k : wkB l G (d + 1) n_X9_read Q 219 [.ref 292, .int (a1 + 1)] [] (qUp I 334 a1.toNatClampNeg (vp_nar .boolean 0)) L R) : wkB l G (d + 1) n_X9_read Q 224 [.ref 292, .int a1] [] I L R :=
  bb_aload_n (n := 0) (i := 0) (zd (i := .aload_n 0) (n := 1) (by decide +kernel)) rfl rfl <|
  bb_getr (k := 292) (ci := 9) (j := 63) (idx := 143) (a := 334) (zd (i := .getfield 143) (n := 3) (by decide +kernel)) (by decide +kernel) (by decide +kernel) (by decide +kernel) (by decide +kernel) rfl g1191 (hR 63 (by decide)) <|
  bb_iload_n (n := 1) (i := 1) (zd (i := .iload_n 1) (n := 1) (by decide +kernel)) rfl rfl <|
  bb_lift (fun _ => q_iconst (n := 0) (zd (i := .iconst (0)) (n := 1) (by decide +kernel)) rfl) <|
  bb_lift (fun _ => q_zast (k := 334) (zd (i := .bastore) (n := 1) (by decide +kernel)) (by decide +kernel) (by decide +kernel) h1) <|
  bb_iinc (i := 1) (n := 1) (zd (i := .iinc 1 (1)) (n := 3) (by decide +kernel)) rfl rfl (by decide +kernel) (wkNl_r rfl) <|
  bb_lift (fun _ => q_goto (off := -15) (tgt := 219) (zd (i := .goto (-15)) (n := 3) (by decide +kernel)) (by decide)) k
theorem w_X9_read_237 {Q : qQ} {I : qMI} {L : qML} {R : qMR} {a1 : Int32} (hQ : Q (some (.int 0)) 336 I L R) : wkB l G (d + 1) n_X9_read Q 237 [.ref 292, .int a1] [] I L R :=
  bb_lift (fun _ => q_iconst (n := 0) (zd (i := .iconst (0)) (n := 1) (by decide +kernel)) rfl) <|
  (fun lv hl => q_iret (zd (i := .ireturn) (n := 1) (by decide +kernel)) rfl rfl (Nat.le_refl _) (Nat.le_refl _) hQ)
theorem w_X9_begins_0 {Q : qQ} {I : qMI} {L : qML} {R : qMR}  (k : wkB l G (d + 1) n_X9_begins Q 2 [.ref 292, .int 0] [] I L R) : wkB l G (d + 1) n_X9_begins Q 0 [.ref 292, wkU] [] I L R :=
  bb_lift (fun _ => q_iconst (n := 0) (zd (i := .iconst (0)) (n := 1) (by decide +kernel)) rfl) <|
  bb_istore_n (n := 1) (i := 1) (zd (i := .istore_n 1) (n := 1) (by decide +kernel)) rfl (by decide +kernel) (wkNl_r rfl) <|
  k
theorem w_X9_begins_2 {Q : qQ} {I : qMI} {L : qML} {R : qMR} {a1 : Int32} (kt : 97 ≤ a1 → wkB l G (d + 1) n_X9_begins Q 21 [.ref 292, .int a1] [] I L R) (kf : ¬ 97 ≤ a1 → wkB l G (d + 1) n_X9_begins Q 8 [.ref 292, .int a1] [] I L R) : wkB l G (d + 1) n_X9_begins Q 2 [.ref 292, .int a1] [] I L R :=
  bb_iload_n (n := 1) (i := 1) (zd (i := .iload_n 1) (n := 1) (by decide +kernel)) rfl rfl <|
  bb_lift (fun _ => q_bipush (n := 97) (zd (i := .bipush (97)) (n := 2) (by decide +kernel)) rfl) <|
  (fun lv hl => q_icmp_ge (off := 16) (tgt := 21) (zd (i := .if_icmp .ge (16)) (n := 3) (by decide +kernel)) (by decide) (fun h => (kt h) lv hl) (fun h => (kf h) lv hl))
theorem w_X9_begins_8 {Q : qQ} {I : qMI} {L : qML} {R : qMR} (hR : wkR R) {a1 : Int32} (h1 : vp_in a1 97) (k : wkB l G (d + 1) n_X9_begins Q 2 [.ref 292, .int (a1 + 1)] [] (qUp I 324 a1.toNatClampNeg 0) L R) : wkB l G (d + 1) n_X9_begins Q 8 [.ref 292, .int a1] [] I L R :=
  bb_aload_n (n := 0) (i := 0) (zd (i := .aload_n 0) (n := 1) (by decide +kernel)) rfl rfl <|
  bb_getr (k := 292) (ci := 9) (j := 49) (idx := 113) (a := 324) (zd (i := .getfield 113) (n := 3) (by decide +kernel)) (by decide +kernel) (by decide +kernel) (by decide +kernel) (by decide +kernel) rfl g1177 (hR 49 (by decide)) <|
  bb_iload_n (n := 1) (i := 1) (zd (i := .iload_n 1) (n := 1) (by decide +kernel)) rfl rfl <|
  bb_lift (fun _ => q_iconst (n := 0) (zd (i := .iconst (0)) (n := 1) (by decide +kernel)) rfl) <|
  bb_lift (fun _ => q_iast (k := 324) (zd (i := .iastore) (n := 1) (by decide +kernel)) (by decide +kernel) (by decide +kernel) h1) <|
  bb_iinc (i := 1) (n := 1) (zd (i := .iinc 1 (1)) (n := 3) (by decide +kernel)) rfl rfl (by decide +kernel) (wkNl_r rfl) <|
  bb_lift (fun _ => q_goto (off := -16) (tgt := 2) (zd (i := .goto (-16)) (n := 3) (by decide +kernel)) (by decide)) k
theorem w_X9_begins_21 {Q : qQ} {I : qMI} {L : qML} {R : qMR} {a1 : Int32} (k : wkB l G (d + 1) n_X9_begins Q 23 [.ref 292, .int 0] [] I L R) : wkB l G (d + 1) n_X9_begins Q 21 [.ref 292, .int a1] [] I L R :=
  bb_lift (fun _ => q_iconst (n := 0) (zd (i := .iconst (0)) (n := 1) (by decide +kernel)) rfl) <|
  bb_istore_n (n := 1) (i := 1) (zd (i := .istore_n 1) (n := 1) (by decide +kernel)) rfl (by decide +kernel) (wkNl_r rfl) <|
  k
theorem w_X9_begins_23 {Q : qQ} {I : qMI} {L : qML} {R : qMR} (hR : wkR R) {a1 : Int32} (h1 : vp_in (I 292 18) 2) (kt : (I 304 (I 292 18).toNatClampNeg) ≤ a1 → wkB l G (d + 1) n_X9_begins Q 85 [.ref 292, .int a1] [] I L R) (kf : ¬ (I 304 (I 292 18).toNatClampNeg) ≤ a1 → wkB l G (d + 1) n_X9_begins Q 36 [.ref 292, .int a1] [] I L R) : wkB l G (d + 1) n_X9_begins Q 23 [.ref 292, .int a1] [] I L R :=
  bb_iload_n (n := 1) (i := 1) (zd (i := .iload_n 1) (n := 1) (by decide +kernel)) rfl rfl <|
  bb_aload_n (n := 0) (i := 0) (zd (i := .aload_n 0) (n := 1) (by decide +kernel)) rfl rfl <|
  bb_getr (k := 292) (ci := 9) (j := 25) (idx := 52) (a := 304) (zd (i := .getfield 52) (n := 3) (by decide +kernel)) (by decide +kernel) (by decide +kernel) (by decide +kernel) (by decide +kernel) rfl g1153 (hR 25 (by decide)) <|
  bb_aload_n (n := 0) (i := 0) (zd (i := .aload_n 0) (n := 1) (by decide +kernel)) rfl rfl <|
  bb_geti (k := 292) (ci := 9) (j := 18) (idx := 230) (zd (i := .getfield 230) (n := 3) (by decide +kernel)) (by decide +kernel) (by decide +kernel) (by decide +kernel) (by decide +kernel) rfl g1146 <|
  bb_lift (fun _ => q_iald (k := 304) (zd (i := .iaload) (n := 1) (by decide +kernel)) (by decide +kernel) (by decide +kernel) h1) <|
  (fun lv hl => q_icmp_ge (off := 52) (tgt := 85) (zd (i := .if_icmp .ge (52)) (n := 3) (by decide +kernel)) (by decide) (fun h => (kt h) lv hl) (fun h => (kf h) lv hl))
theorem w_X9_begins_36 {Q : qQ} {I : qMI} {L : qML} {R : qMR} (hR : wkR R) {a1 : Int32} (h1 : vp_in ((6 * (I 292 18)) + a1) 12) (h2 : vp_in a1 97) (h3 : vp_in ((6 * ((qUp I 324 a1.toNatClampNeg (I 305 ((6 * (I 292 18)) + a1).toNatClampNeg)) 292 18)) + a1) 12) (h4 : vp_in (6 + a1) 97) (k : wkB l G (d + 1) n_X9_begins Q 23 [.ref 292, .int (a1 + 1)] [] (qUp (qUp I 324 a1.toNatClampNeg (I 305 ((6 * (I 292 18)) + a1).toNatClampNeg)) 324 (6 + a1).toNatClampNeg ((qUp I 324 a1.toNatClampNeg (I 305 ((6 * (I 292 18)) + a1).toNatClampNeg)) 306 ((6 * ((qUp I 324 a1.toNatClampNeg (I 305 ((6 * (I 292 18)) + a1).toNatClampNeg)) 292 18)) + a1).toNatClampNeg)) L R) : wkB l G (d + 1) n_X9_begins Q 36 [.ref 292, .int a1] [] I L R :=
  bb_aload_n (n := 0) (i := 0) (zd (i := .aload_n 0) (n := 1) (by decide +kernel)) rfl rfl <|
  bb_getr (k := 292) (ci := 9) (j := 49) (idx := 113) (a := 324) (zd (i := .getfield 113) (n := 3) (by decide +kernel)) (by decide +kernel) (by decide +kernel) (by decide +kernel) (by decide +kernel) rfl g1177 (hR 49 (by decide)) <|
  bb_iload_n (n := 1) (i := 1) (zd (i := .iload_n 1) (n := 1) (by decide +kernel)) rfl rfl <|
  bb_aload_n (n := 0) (i := 0) (zd (i := .aload_n 0) (n := 1) (by decide +kernel)) rfl rfl <|
  bb_getr (k := 292) (ci := 9) (j := 26) (idx := 55) (a := 305) (zd (i := .getfield 55) (n := 3) (by decide +kernel)) (by decide +kernel) (by decide +kernel) (by decide +kernel) (by decide +kernel) rfl g1154 (hR 26 (by decide)) <|
  bb_lift (fun _ => q_bipush (n := 6) (zd (i := .bipush (6)) (n := 2) (by decide +kernel)) rfl) <|
  bb_aload_n (n := 0) (i := 0) (zd (i := .aload_n 0) (n := 1) (by decide +kernel)) rfl rfl <|
  bb_geti (k := 292) (ci := 9) (j := 18) (idx := 230) (zd (i := .getfield 230) (n := 3) (by decide +kernel)) (by decide +kernel) (by decide +kernel) (by decide +kernel) (by decide +kernel) rfl g1146 <|
  bb_lift (fun _ => q_imul (zd (i := .imul) (n := 1) (by decide +kernel))) <|
  bb_iload_n (n := 1) (i := 1) (zd (i := .iload_n 1) (n := 1) (by decide +kernel)) rfl rfl <|
  bb_lift (fun _ => q_iadd (zd (i := .iadd) (n := 1) (by decide +kernel))) <|
  bb_lift (fun _ => q_iald (k := 305) (zd (i := .iaload) (n := 1) (by decide +kernel)) (by decide +kernel) (by decide +kernel) h1) <|
  bb_lift (fun _ => q_iast (k := 324) (zd (i := .iastore) (n := 1) (by decide +kernel)) (by decide +kernel) (by decide +kernel) h2) <|
  bb_aload_n (n := 0) (i := 0) (zd (i := .aload_n 0) (n := 1) (by decide +kernel)) rfl rfl <|
  bb_getr (k := 292) (ci := 9) (j := 49) (idx := 113) (a := 324) (zd (i := .getfield 113) (n := 3) (by decide +kernel)) (by decide +kernel) (by decide +kernel) (by decide +kernel) (by decide +kernel) rfl g1177 (hR 49 (by decide)) <|
  bb_lift (fun _ => q_bipush (n := 6) (zd (i := .bipush (6)) (n := 2) (by decide +kernel)) rfl) <|
  bb_iload_n (n := 1) (i := 1) (zd (i := .iload_n 1) (n := 1) (by decide +kernel)) rfl rfl <|
  bb_lift (fun _ => q_iadd (zd (i := .iadd) (n := 1) (by decide +kernel))) <|
  bb_aload_n (n := 0) (i := 0) (zd (i := .aload_n 0) (n := 1) (by decide +kernel)) rfl rfl <|
  bb_getr (k := 292) (ci := 9) (j := 27) (idx := 58) (a := 306) (zd (i := .getfield 58) (n := 3) (by decide +kernel)) (by decide +kernel) (by decide +kernel) (by decide +kernel) (by decide +kernel) rfl g1155 (hR 27 (by decide)) <|
  bb_lift (fun _ => q_bipush (n := 6) (zd (i := .bipush (6)) (n := 2) (by decide +kernel)) rfl) <|
  bb_aload_n (n := 0) (i := 0) (zd (i := .aload_n 0) (n := 1) (by decide +kernel)) rfl rfl <|
  bb_geti (k := 292) (ci := 9) (j := 18) (idx := 230) (zd (i := .getfield 230) (n := 3) (by decide +kernel)) (by decide +kernel) (by decide +kernel) (by decide +kernel) (by decide +kernel) rfl g1146 <|
  bb_lift (fun _ => q_imul (zd (i := .imul) (n := 1) (by decide +kernel))) <|
  bb_iload_n (n := 1) (i := 1) (zd (i := .iload_n 1) (n := 1) (by decide +kernel)) rfl rfl <|
  bb_lift (fun _ => q_iadd (zd (i := .iadd) (n := 1) (by decide +kernel))) <|
  bb_lift (fun _ => q_iald (k := 306) (zd (i := .iaload) (n := 1) (by decide +kernel)) (by decide +kernel) (by decide +kernel) h3) <|
  bb_lift (fun _ => q_iast (k := 324) (zd (i := .iastore) (n := 1) (by decide +kernel)) (by decide +kernel) (by decide +kernel) h4) <|
  bb_iinc (i := 1) (n := 1) (zd (i := .iinc 1 (1)) (n := 3) (by decide +kernel)) rfl rfl (by decide +kernel) (wkNl_r rfl) <|
  bb_lift (fun _ => q_goto (off := -59) (tgt := 23) (zd (i := .goto (-59)) (n := 3) (by decide +kernel)) (by decide)) k
theorem w_X9_begins_85 {Q : qQ} {I : qMI} {L : qML} {R : qMR} (hR : wkR R) {a1 : Int32} (h1 : vp_in (I 292 18) 2) (h2 : vp_in 96 97) (h3 : vp_in ((qUp I 324 (96 : Int32).toNatClampNeg (I 309 (I 292 18).toNatClampNeg)) 292 18) 2) (hQ : Q none 336 (qUp (qUp I 324 (96 : Int32).toNatClampNeg (I 309 (I 292 18).toNatClampNeg)) 292 50 ((qUp I 324 (96 : Int32).toNatClampNeg (I 309 (I 292 18).toNatClampNeg)) 310 ((qUp I 324 (96 : Int32).toNatClampNeg (I 309 (I 292 18).toNatClampNeg)) 292 18).toNatClampNeg)) L R) : wkB l G (d + 1) n_X9_begins Q 85 [.ref 292, .int a1] [] I L R :=
  bb_aload_n (n := 0) (i := 0) (zd (i := .aload_n 0) (n := 1) (by decide +kernel)) rfl rfl <|
  bb_getr (k := 292) (ci := 9) (j := 49) (idx := 113) (a := 324) (zd (i := .getfield 113) (n := 3) (by decide +kernel)) (by decide +kernel) (by decide +kernel) (by decide +kernel) (by decide +kernel) rfl g1177 (hR 49 (by decide)) <|
  bb_lift (fun _ => q_bipush (n := 96) (zd (i := .bipush (96)) (n := 2) (by decide +kernel)) rfl) <|
  bb_aload_n (n := 0) (i := 0) (zd (i := .aload_n 0) (n := 1) (by decide +kernel)) rfl rfl <|
  bb_getr (k := 292) (ci := 9) (j := 30) (idx := 67) (a := 309) (zd (i := .getfield 67) (n := 3) (by decide +kernel)) (by decide +kernel) (by decide +kernel) (by decide +kernel) (by decide +kernel) rfl g1158 (hR 30 (by decide)) <|
  bb_aload_n (n := 0) (i := 0) (zd (i := .aload_n 0) (n := 1) (by decide +kernel)) rfl rfl <|
  bb_geti (k := 292) (ci := 9) (j := 18) (idx := 230) (zd (i := .getfield 230) (n := 3) (by decide +kernel)) (by decide +kernel) (by decide +kernel) (by decide +kernel) (by decide +kernel) rfl g1146 <|
  bb_lift (fun _ => q_iald (k := 309) (zd (i := .iaload) (n := 1) (by decide +kernel)) (by decide +kernel) (by decide +kernel) h1) <|
  bb_lift (fun _ => q_iast (k := 324) (zd (i := .iastore) (n := 1) (by decide +kernel)) (by decide +kernel) (by decide +kernel) h2) <|
  bb_aload_n (n := 0) (i := 0) (zd (i := .aload_n 0) (n := 1) (by decide +kernel)) rfl rfl <|
  bb_aload_n (n := 0) (i := 0) (zd (i := .aload_n 0) (n := 1) (by decide +kernel)) rfl rfl <|
  bb_getr (k := 292) (ci := 9) (j := 31) (idx := 70) (a := 310) (zd (i := .getfield 70) (n := 3) (by decide +kernel)) (by decide +kernel) (by decide +kernel) (by decide +kernel) (by decide +kernel) rfl g1159 (hR 31 (by decide)) <|
  bb_aload_n (n := 0) (i := 0) (zd (i := .aload_n 0) (n := 1) (by decide +kernel)) rfl rfl <|
  bb_geti (k := 292) (ci := 9) (j := 18) (idx := 230) (zd (i := .getfield 230) (n := 3) (by decide +kernel)) (by decide +kernel) (by decide +kernel) (by decide +kernel) (by decide +kernel) rfl g1146 <|
  bb_lift (fun _ => q_iald (k := 310) (zd (i := .iaload) (n := 1) (by decide +kernel)) (by decide +kernel) (by decide +kernel) h3) <|
  bb_puti (k := 292) (ci := 9) (j := 50) (idx := 308) (zd (i := .putfield 308) (n := 3) (by decide +kernel)) (by decide +kernel) (by decide +kernel) (by decide +kernel) (by decide +kernel) g1178 rfl rfl <|
  (fun lv hl => q_vret (zd (i := .return_) (n := 1) (by decide +kernel)) rfl (Nat.le_refl _) (Nat.le_refl _) hQ)
theorem w_X9_keepsRow_0 {Q : qQ} {I : qMI} {L : qML} {R : qMR}  (k : wkB l G (d + 1) n_X9_keepsRow Q 2 [.ref 292, .int 0] [] I L R) : wkB l G (d + 1) n_X9_keepsRow Q 0 [.ref 292, wkU] [] I L R :=
  bb_lift (fun _ => q_iconst (n := 0) (zd (i := .iconst (0)) (n := 1) (by decide +kernel)) rfl) <|
  bb_istore_n (n := 1) (i := 1) (zd (i := .istore_n 1) (n := 1) (by decide +kernel)) rfl (by decide +kernel) (wkNl_r rfl) <|
  k
theorem w_X9_keepsRow_2 {Q : qQ} {I : qMI} {L : qML} {R : qMR} {a1 : Int32} (kt : 97 ≤ a1 → wkB l G (d + 1) n_X9_keepsRow Q 26 [.ref 292, .int a1] [] I L R) (kf : ¬ 97 ≤ a1 → wkB l G (d + 1) n_X9_keepsRow Q 8 [.ref 292, .int a1] [] I L R) : wkB l G (d + 1) n_X9_keepsRow Q 2 [.ref 292, .int a1] [] I L R :=
  bb_iload_n (n := 1) (i := 1) (zd (i := .iload_n 1) (n := 1) (by decide +kernel)) rfl rfl <|
  bb_lift (fun _ => q_bipush (n := 97) (zd (i := .bipush (97)) (n := 2) (by decide +kernel)) rfl) <|
  (fun lv hl => q_icmp_ge (off := 21) (tgt := 26) (zd (i := .if_icmp .ge (21)) (n := 3) (by decide +kernel)) (by decide) (fun h => (kt h) lv hl) (fun h => (kf h) lv hl))
theorem w_X9_keepsRow_8 {Q : qQ} {I : qMI} {L : qML} {R : qMR} (hR : wkR R) {a1 : Int32} (h1 : vp_in a1 97) (h2 : vp_in a1 97) (k : wkB l G (d + 1) n_X9_keepsRow Q 2 [.ref 292, .int (a1 + 1)] [] (qUp I 323 a1.toNatClampNeg (I 324 a1.toNatClampNeg)) L R) : wkB l G (d + 1) n_X9_keepsRow Q 8 [.ref 292, .int a1] [] I L R :=
  bb_aload_n (n := 0) (i := 0) (zd (i := .aload_n 0) (n := 1) (by decide +kernel)) rfl rfl <|
  bb_getr (k := 292) (ci := 9) (j := 48) (idx := 110) (a := 323) (zd (i := .getfield 110) (n := 3) (by decide +kernel)) (by decide +kernel) (by decide +kernel) (by decide +kernel) (by decide +kernel) rfl g1176 (hR 48 (by decide)) <|
  bb_iload_n (n := 1) (i := 1) (zd (i := .iload_n 1) (n := 1) (by decide +kernel)) rfl rfl <|
  bb_aload_n (n := 0) (i := 0) (zd (i := .aload_n 0) (n := 1) (by decide +kernel)) rfl rfl <|
  bb_getr (k := 292) (ci := 9) (j := 49) (idx := 113) (a := 324) (zd (i := .getfield 113) (n := 3) (by decide +kernel)) (by decide +kernel) (by decide +kernel) (by decide +kernel) (by decide +kernel) rfl g1177 (hR 49 (by decide)) <|
  bb_iload_n (n := 1) (i := 1) (zd (i := .iload_n 1) (n := 1) (by decide +kernel)) rfl rfl <|
  bb_lift (fun _ => q_iald (k := 324) (zd (i := .iaload) (n := 1) (by decide +kernel)) (by decide +kernel) (by decide +kernel) h1) <|
  bb_lift (fun _ => q_iast (k := 323) (zd (i := .iastore) (n := 1) (by decide +kernel)) (by decide +kernel) (by decide +kernel) h2) <|
  bb_iinc (i := 1) (n := 1) (zd (i := .iinc 1 (1)) (n := 3) (by decide +kernel)) rfl rfl (by decide +kernel) (wkNl_r rfl) <|
  bb_lift (fun _ => q_goto (off := -21) (tgt := 2) (zd (i := .goto (-21)) (n := 3) (by decide +kernel)) (by decide)) k
theorem w_X9_keepsRow_26 {Q : qQ} {I : qMI} {L : qML} {R : qMR} {a1 : Int32} (hQ : Q none 336 I L R) : wkB l G (d + 1) n_X9_keepsRow Q 26 [.ref 292, .int a1] [] I L R :=
  (fun lv hl => q_vret (zd (i := .return_) (n := 1) (by decide +kernel)) rfl (Nat.le_refl _) (Nat.le_refl _) hQ)
end
