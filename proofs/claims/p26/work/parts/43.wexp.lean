section
variable {l : Launch} {G : qG} {d : Nat}
def n_X9_expression : qMn := (yX9_expression, cX9_expression, 3, none, 0, 0)
theorem to_X9_expression : qTo n_X9_expression 0 := ⟨g1413, g110, ⟨by decide, by decide, by decide +kernel⟩, by decide⟩
def n_X9_term : qMn := (yX9_term, cX9_term, 1, none, 0, 0)
theorem to_X9_term : qTo n_X9_term 0 := ⟨g1429, g110, ⟨by decide, by decide, by decide +kernel⟩, by decide⟩
def n_X9_tellLaw : qMn := (yX9_tellLaw, cX9_tellLaw, 4, none, 0, 0)
theorem to_X9_tellLaw : qTo n_X9_tellLaw 1 := ⟨g1409, g110, ⟨by decide, by decide, by decide +kernel⟩, by decide⟩
theorem w_X9_expression_0 {Q : qQ} {I : qMI} {L : qML} {R : qMR}  (k : wkB l G (d + 1) n_X9_expression Q 12 [.ref 292, .int ((qUp I 292 44 0) 292 12), .int 1] [] (qUp I 292 44 0) L R) : wkB l G (d + 1) n_X9_expression Q 0 [.ref 292, wkU, wkU] [] I L R :=
  bb_aload_n (n := 0) (i := 0) (zd (i := .aload_n 0) (n := 1) (by decide +kernel)) rfl rfl <|
  bb_lift (fun _ => q_iconst (n := 0) (zd (i := .iconst (0)) (n := 1) (by decide +kernel)) rfl) <|
  bb_puti (k := 292) (ci := 9) (j := 44) (idx := 287) (zd (i := .putfield 287) (n := 3) (by decide +kernel)) (by decide +kernel) (by decide +kernel) (by decide +kernel) (by decide +kernel) g1172 rfl rfl <|
  bb_aload_n (n := 0) (i := 0) (zd (i := .aload_n 0) (n := 1) (by decide +kernel)) rfl rfl <|
  bb_geti (k := 292) (ci := 9) (j := 12) (idx := 227) (zd (i := .getfield 227) (n := 3) (by decide +kernel)) (by decide +kernel) (by decide +kernel) (by decide +kernel) (by decide +kernel) rfl g1140 <|
  bb_istore_n (n := 1) (i := 1) (zd (i := .istore_n 1) (n := 1) (by decide +kernel)) rfl (by decide +kernel) (wkNl_r rfl) <|
  bb_lift (fun _ => q_iconst (n := 1) (zd (i := .iconst (1)) (n := 1) (by decide +kernel)) rfl) <|
  bb_istore_n (n := 2) (i := 2) (zd (i := .istore_n 2) (n := 1) (by decide +kernel)) rfl (by decide +kernel) (wkNl_i rfl) <|
  k
theorem w_X9_expression_12 {Q : qQ} {I : qMI} {L : qML} {R : qMR} {a1 : Int32} {a2 : Int32} (kt : a2 = 0 → wkB l G (d + 1) n_X9_expression Q 272 [.ref 292, .int a1, .int a2] [] I L R) (kf : ¬ a2 = 0 → wkB l G (d + 1) n_X9_expression Q 16 [.ref 292, .int a1, .int a2] [] I L R) : wkB l G (d + 1) n_X9_expression Q 12 [.ref 292, .int a1, .int a2] [] I L R :=
  bb_iload_n (n := 2) (i := 2) (zd (i := .iload_n 2) (n := 1) (by decide +kernel)) rfl rfl <|
  (fun lv hl => q_if_eq (off := 259) (tgt := 272) (zd (i := .ifCond .eq (259)) (n := 3) (by decide +kernel)) (by decide) (fun h => (kt h) lv hl) (fun h => (kf h) lv hl))
theorem w_X9_expression_16 {Q : qQ} {I : qMI} {L : qML} {R : qMR} {a1 : Int32} {a2 : Int32} (kt : ¬ (I 292 13) = 0 → wkB l G (d + 1) n_X9_expression Q 272 [.ref 292, .int a1, .int a2] [] I L R) (kf : (I 292 13) = 0 → wkB l G (d + 1) n_X9_expression Q 23 [.ref 292, .int a1, .int a2] [] I L R) : wkB l G (d + 1) n_X9_expression Q 16 [.ref 292, .int a1, .int a2] [] I L R :=
  bb_aload_n (n := 0) (i := 0) (zd (i := .aload_n 0) (n := 1) (by decide +kernel)) rfl rfl <|
  bb_geti (k := 292) (ci := 9) (j := 13) (idx := 200) (zd (i := .getfield 200) (n := 3) (by decide +kernel)) (by decide +kernel) (by decide +kernel) (by decide +kernel) (by decide +kernel) rfl g1141 <|
  (fun lv hl => q_if_ne (off := 252) (tgt := 272) (zd (i := .ifCond .ne (252)) (n := 3) (by decide +kernel)) (by decide) (fun h => (kt h) lv hl) (fun h => (kf h) lv hl))
theorem w_X9_expression_23 {Q : qQ} {I : qMI} {L : qML} {R : qMR} {a1 : Int32} {a2 : Int32} {P : Int32 → qMI → qML → Prop} (hc : wkI l G d n_X9_is [.ref 292, .int 6] I L R P) (kk : ∀ y I' L', P y I' L' → wkB l G (d + 1) n_X9_expression Q 29 [.ref 292, .int a1, .int a2] [.int y] I' L' R) : wkB l G (d + 1) n_X9_expression Q 23 [.ref 292, .int a1, .int a2] [] I L R :=
  bb_aload_n (n := 0) (i := 0) (zd (i := .aload_n 0) (n := 1) (by decide +kernel)) rfl rfl <|
  bb_lift (fun _ => q_bipush (n := 6) (zd (i := .bipush (6)) (n := 2) (by decide +kernel)) rfl) <|
  bb_callVI (idx := 218) (k := 292) (ci := 9) (N := n_X9_is) (As := [.int 6]) (st := []) (zd (i := .invokevirtual 218) (n := 3) (by decide +kernel)) to_X9_is g1362 g1364 g49 (Nat.le_of_ble_eq_true rfl) (by decide +kernel) (by decide +kernel) (by decide +kernel) rfl rfl rfl hc kk
theorem w_X9_expression_29 {Q : qQ} {I : qMI} {L : qML} {R : qMR} {a1 : Int32} {a2 : Int32} {s0 : Int32} (kt : s0 = 0 → wkB l G (d + 1) n_X9_expression Q 84 [.ref 292, .int a1, .int a2] [] I L R) (kf : ¬ s0 = 0 → wkB l G (d + 1) n_X9_expression Q 32 [.ref 292, .int a1, .int a2] [] I L R) : wkB l G (d + 1) n_X9_expression Q 29 [.ref 292, .int a1, .int a2] [.int s0] I L R :=
  (fun lv hl => q_if_eq (off := 55) (tgt := 84) (zd (i := .ifCond .eq (55)) (n := 3) (by decide +kernel)) (by decide) (fun h => (kt h) lv hl) (fun h => (kf h) lv hl))
theorem w_X9_expression_32 {Q : qQ} {I : qMI} {L : qML} {R : qMR} {a1 : Int32} {a2 : Int32} (kt : ¬ (I 292 12) = 6 → wkB l G (d + 1) n_X9_expression Q 46 [.ref 292, .int a1, .int a2] [] I L R) (kf : (I 292 12) = 6 → wkB l G (d + 1) n_X9_expression Q 41 [.ref 292, .int a1, .int a2] [] I L R) : wkB l G (d + 1) n_X9_expression Q 32 [.ref 292, .int a1, .int a2] [] I L R :=
  bb_aload_n (n := 0) (i := 0) (zd (i := .aload_n 0) (n := 1) (by decide +kernel)) rfl rfl <|
  bb_geti (k := 292) (ci := 9) (j := 12) (idx := 227) (zd (i := .getfield 227) (n := 3) (by decide +kernel)) (by decide +kernel) (by decide +kernel) (by decide +kernel) (by decide +kernel) rfl g1140 <|
  bb_lift (fun _ => q_bipush (n := 6) (zd (i := .bipush (6)) (n := 2) (by decide +kernel)) rfl) <|
  (fun lv hl => q_icmp_ne (off := 8) (tgt := 46) (zd (i := .if_icmp .ne (8)) (n := 3) (by decide +kernel)) (by decide) (fun h => (kt h) lv hl) (fun h => (kf h) lv hl))
theorem w_X9_expression_41 {Q : qQ} {I : qMI} {L : qML} {R : qMR} {a1 : Int32} {a2 : Int32} {P : qMI → qML → Prop} (hc : wkV l G d n_X9_fail [.ref 292, .int 2] I L R P) (kk : ∀ I' L', P I' L' → wkB l G (d + 1) n_X9_expression Q 46 [.ref 292, .int a1, .int a2] [] I' L' R) : wkB l G (d + 1) n_X9_expression Q 41 [.ref 292, .int a1, .int a2] [] I L R :=
  bb_aload_n (n := 0) (i := 0) (zd (i := .aload_n 0) (n := 1) (by decide +kernel)) rfl rfl <|
  bb_lift (fun _ => q_iconst (n := 2) (zd (i := .iconst (2)) (n := 1) (by decide +kernel)) rfl) <|
  bb_callVV (idx := 215) (k := 292) (ci := 9) (N := n_X9_fail) (As := [.int 2]) (st := []) (zd (i := .invokevirtual 215) (n := 3) (by decide +kernel)) to_X9_fail g1374 g1376 g52 (Nat.le_of_ble_eq_true rfl) (by decide +kernel) (by decide +kernel) (by decide +kernel) rfl rfl rfl hc kk
theorem w_X9_expression_46 {Q : qQ} {I : qMI} {L : qML} {R : qMR} {a1 : Int32} {a2 : Int32} {P : qMI → qML → Prop} (hc : wkV l G d n_X9_goesOn [.ref 292] (qUp I 292 12 ((I 292 12) + 1)) L R P) (kk : ∀ I' L', P I' L' → wkB l G (d + 1) n_X9_expression Q 60 [.ref 292, .int a1, .int a2] [] I' L' R) : wkB l G (d + 1) n_X9_expression Q 46 [.ref 292, .int a1, .int a2] [] I L R :=
  bb_aload_n (n := 0) (i := 0) (zd (i := .aload_n 0) (n := 1) (by decide +kernel)) rfl rfl <|
  bb_lift (fun _ => q_dup (zd (i := .dup) (n := 1) (by decide +kernel)) rfl) <|
  bb_geti (k := 292) (ci := 9) (j := 12) (idx := 227) (zd (i := .getfield 227) (n := 3) (by decide +kernel)) (by decide +kernel) (by decide +kernel) (by decide +kernel) (by decide +kernel) rfl g1140 <|
  bb_lift (fun _ => q_iconst (n := 1) (zd (i := .iconst (1)) (n := 1) (by decide +kernel)) rfl) <|
  bb_lift (fun _ => q_iadd (zd (i := .iadd) (n := 1) (by decide +kernel))) <|
  bb_puti (k := 292) (ci := 9) (j := 12) (idx := 227) (zd (i := .putfield 227) (n := 3) (by decide +kernel)) (by decide +kernel) (by decide +kernel) (by decide +kernel) (by decide +kernel) g1140 rfl rfl <|
  bb_aload_n (n := 0) (i := 0) (zd (i := .aload_n 0) (n := 1) (by decide +kernel)) rfl rfl <|
  bb_callVV (idx := 221) (k := 292) (ci := 9) (N := n_X9_goesOn) (As := []) (st := []) (zd (i := .invokevirtual 221) (n := 3) (by decide +kernel)) to_X9_goesOn g1378 g1380 g53 (Nat.le_of_ble_eq_true rfl) (by decide +kernel) (by decide +kernel) (by decide +kernel) rfl rfl rfl hc kk
theorem w_X9_expression_60 {Q : qQ} {I : qMI} {L : qML} {R : qMR} (hR : wkR R) {a1 : Int32} {a2 : Int32} (h1 : vp_in (I 292 44) 64) (k : wkB l G (d + 1) n_X9_expression Q 23 [.ref 292, .int a1, .int a2] [] (qUp (qUp I 320 (I 292 44).toNatClampNeg 6) 292 44 (((qUp I 320 (I 292 44).toNatClampNeg 6) 292 44) + 1)) L R) : wkB l G (d + 1) n_X9_expression Q 60 [.ref 292, .int a1, .int a2] [] I L R :=
  bb_aload_n (n := 0) (i := 0) (zd (i := .aload_n 0) (n := 1) (by decide +kernel)) rfl rfl <|
  bb_getr (k := 292) (ci := 9) (j := 43) (idx := 101) (a := 320) (zd (i := .getfield 101) (n := 3) (by decide +kernel)) (by decide +kernel) (by decide +kernel) (by decide +kernel) (by decide +kernel) rfl g1171 (hR 43 (by decide)) <|
  bb_aload_n (n := 0) (i := 0) (zd (i := .aload_n 0) (n := 1) (by decide +kernel)) rfl rfl <|
  bb_geti (k := 292) (ci := 9) (j := 44) (idx := 287) (zd (i := .getfield 287) (n := 3) (by decide +kernel)) (by decide +kernel) (by decide +kernel) (by decide +kernel) (by decide +kernel) rfl g1172 <|
  bb_lift (fun _ => q_bipush (n := 6) (zd (i := .bipush (6)) (n := 2) (by decide +kernel)) rfl) <|
  bb_lift (fun _ => q_iast (k := 320) (zd (i := .iastore) (n := 1) (by decide +kernel)) (by decide +kernel) (by decide +kernel) h1) <|
  bb_aload_n (n := 0) (i := 0) (zd (i := .aload_n 0) (n := 1) (by decide +kernel)) rfl rfl <|
  bb_lift (fun _ => q_dup (zd (i := .dup) (n := 1) (by decide +kernel)) rfl) <|
  bb_geti (k := 292) (ci := 9) (j := 44) (idx := 287) (zd (i := .getfield 287) (n := 3) (by decide +kernel)) (by decide +kernel) (by decide +kernel) (by decide +kernel) (by decide +kernel) rfl g1172 <|
  bb_lift (fun _ => q_iconst (n := 1) (zd (i := .iconst (1)) (n := 1) (by decide +kernel)) rfl) <|
  bb_lift (fun _ => q_iadd (zd (i := .iadd) (n := 1) (by decide +kernel))) <|
  bb_puti (k := 292) (ci := 9) (j := 44) (idx := 287) (zd (i := .putfield 287) (n := 3) (by decide +kernel)) (by decide +kernel) (by decide +kernel) (by decide +kernel) (by decide +kernel) g1172 rfl rfl <|
  bb_lift (fun _ => q_goto (off := -58) (tgt := 23) (zd (i := .goto (-58)) (n := 3) (by decide +kernel)) (by decide)) k
theorem w_X9_expression_84 {Q : qQ} {I : qMI} {L : qML} {R : qMR} {a1 : Int32} {a2 : Int32} {P : qMI → qML → Prop} (hc : wkV l G d n_X9_unit [.ref 292] I L R P) (kk : ∀ I' L', P I' L' → wkB l G (d + 1) n_X9_expression Q 88 [.ref 292, .int a1, .int a2] [] I' L' R) : wkB l G (d + 1) n_X9_expression Q 84 [.ref 292, .int a1, .int a2] [] I L R :=
  bb_aload_n (n := 0) (i := 0) (zd (i := .aload_n 0) (n := 1) (by decide +kernel)) rfl rfl <|
  bb_callVV (idx := 293) (k := 292) (ci := 9) (N := n_X9_unit) (As := []) (st := []) (zd (i := .invokevirtual 293) (n := 3) (by decide +kernel)) to_X9_unit g1414 g1416 g62 (Nat.le_of_ble_eq_true rfl) (by decide +kernel) (by decide +kernel) (by decide +kernel) rfl rfl rfl hc kk
theorem w_X9_expression_88 {Q : qQ} {I : qMI} {L : qML} {R : qMR} {a1 : Int32} {a2 : Int32} (kt : (I 292 13) ≤ 0 → wkB l G (d + 1) n_X9_expression Q 96 [.ref 292, .int a1, .int a2] [] I L R) (kf : ¬ (I 292 13) ≤ 0 → wkB l G (d + 1) n_X9_expression Q 95 [.ref 292, .int a1, .int a2] [] I L R) : wkB l G (d + 1) n_X9_expression Q 88 [.ref 292, .int a1, .int a2] [] I L R :=
  bb_aload_n (n := 0) (i := 0) (zd (i := .aload_n 0) (n := 1) (by decide +kernel)) rfl rfl <|
  bb_geti (k := 292) (ci := 9) (j := 13) (idx := 200) (zd (i := .getfield 200) (n := 3) (by decide +kernel)) (by decide +kernel) (by decide +kernel) (by decide +kernel) (by decide +kernel) rfl g1141 <|
  (fun lv hl => q_if_le (off := 4) (tgt := 96) (zd (i := .ifCond .le (4)) (n := 3) (by decide +kernel)) (by decide) (fun h => (kt h) lv hl) (fun h => (kf h) lv hl))
theorem w_X9_expression_95 {Q : qQ} {I : qMI} {L : qML} {R : qMR} {a1 : Int32} {a2 : Int32} (hQ : Q none 336 I L R) : wkB l G (d + 1) n_X9_expression Q 95 [.ref 292, .int a1, .int a2] [] I L R :=
  (fun lv hl => q_vret (zd (i := .return_) (n := 1) (by decide +kernel)) rfl (Nat.le_refl _) (Nat.le_refl _) hQ)
theorem w_X9_expression_96 {Q : qQ} {I : qMI} {L : qML} {R : qMR} {a1 : Int32} {a2 : Int32} {P : Int32 → qMI → qML → Prop} (hc : wkI l G d n_X9_is [.ref 292, .int 7] I L R P) (kk : ∀ y I' L', P y I' L' → wkB l G (d + 1) n_X9_expression Q 102 [.ref 292, .int a1, .int a2] [.int y] I' L' R) : wkB l G (d + 1) n_X9_expression Q 96 [.ref 292, .int a1, .int a2] [] I L R :=
  bb_aload_n (n := 0) (i := 0) (zd (i := .aload_n 0) (n := 1) (by decide +kernel)) rfl rfl <|
  bb_lift (fun _ => q_bipush (n := 7) (zd (i := .bipush (7)) (n := 2) (by decide +kernel)) rfl) <|
  bb_callVI (idx := 218) (k := 292) (ci := 9) (N := n_X9_is) (As := [.int 7]) (st := []) (zd (i := .invokevirtual 218) (n := 3) (by decide +kernel)) to_X9_is g1362 g1364 g49 (Nat.le_of_ble_eq_true rfl) (by decide +kernel) (by decide +kernel) (by decide +kernel) rfl rfl rfl hc kk
theorem w_X9_expression_102 {Q : qQ} {I : qMI} {L : qML} {R : qMR} {a1 : Int32} {a2 : Int32} {s0 : Int32} (kt : s0 = 0 → wkB l G (d + 1) n_X9_expression Q 145 [.ref 292, .int a1, .int a2] [] I L R) (kf : ¬ s0 = 0 → wkB l G (d + 1) n_X9_expression Q 105 [.ref 292, .int a1, .int a2] [] I L R) : wkB l G (d + 1) n_X9_expression Q 102 [.ref 292, .int a1, .int a2] [.int s0] I L R :=
  (fun lv hl => q_if_eq (off := 43) (tgt := 145) (zd (i := .ifCond .eq (43)) (n := 3) (by decide +kernel)) (by decide) (fun h => (kt h) lv hl) (fun h => (kf h) lv hl))
theorem w_X9_expression_105 {Q : qQ} {I : qMI} {L : qML} {R : qMR} {a1 : Int32} {a2 : Int32} (kt : (I 292 12) ≤ a1 → wkB l G (d + 1) n_X9_expression Q 145 [.ref 292, .int a1, .int a2] [] I L R) (kf : ¬ (I 292 12) ≤ a1 → wkB l G (d + 1) n_X9_expression Q 113 [.ref 292, .int a1, .int a2] [] I L R) : wkB l G (d + 1) n_X9_expression Q 105 [.ref 292, .int a1, .int a2] [] I L R :=
  bb_aload_n (n := 0) (i := 0) (zd (i := .aload_n 0) (n := 1) (by decide +kernel)) rfl rfl <|
  bb_geti (k := 292) (ci := 9) (j := 12) (idx := 227) (zd (i := .getfield 227) (n := 3) (by decide +kernel)) (by decide +kernel) (by decide +kernel) (by decide +kernel) (by decide +kernel) rfl g1140 <|
  bb_iload_n (n := 1) (i := 1) (zd (i := .iload_n 1) (n := 1) (by decide +kernel)) rfl rfl <|
  (fun lv hl => q_icmp_le (off := 35) (tgt := 145) (zd (i := .if_icmp .le (35)) (n := 3) (by decide +kernel)) (by decide) (fun h => (kt h) lv hl) (fun h => (kf h) lv hl))
theorem w_X9_expression_113 {Q : qQ} {I : qMI} {L : qML} {R : qMR} {a1 : Int32} {a2 : Int32} {P : qMI → qML → Prop} (hc : wkV l G d n_X9_comesOut [.ref 292, .int 0] I L R P) (kk : ∀ I' L', P I' L' → wkB l G (d + 1) n_X9_expression Q 118 [.ref 292, .int a1, .int a2] [] I' L' R) : wkB l G (d + 1) n_X9_expression Q 113 [.ref 292, .int a1, .int a2] [] I L R :=
  bb_aload_n (n := 0) (i := 0) (zd (i := .aload_n 0) (n := 1) (by decide +kernel)) rfl rfl <|
  bb_lift (fun _ => q_iconst (n := 0) (zd (i := .iconst (0)) (n := 1) (by decide +kernel)) rfl) <|
  bb_callVV (idx := 296) (k := 292) (ci := 9) (N := n_X9_comesOut) (As := [.int 0]) (st := []) (zd (i := .invokevirtual 296) (n := 3) (by decide +kernel)) to_X9_comesOut g1422 g1424 g64 (Nat.le_of_ble_eq_true rfl) (by decide +kernel) (by decide +kernel) (by decide +kernel) rfl rfl rfl hc kk
theorem w_X9_expression_118 {Q : qQ} {I : qMI} {L : qML} {R : qMR} {a1 : Int32} {a2 : Int32} {P : qMI → qML → Prop} (hc : wkV l G d n_X9_goesOn [.ref 292] (qUp (qUp I 292 44 ((I 292 44) - 1)) 292 12 (((qUp I 292 44 ((I 292 44) - 1)) 292 12) - 1)) L R P) (kk : ∀ I' L', P I' L' → wkB l G (d + 1) n_X9_expression Q 142 [.ref 292, .int a1, .int a2] [] I' L' R) : wkB l G (d + 1) n_X9_expression Q 118 [.ref 292, .int a1, .int a2] [] I L R :=
  bb_aload_n (n := 0) (i := 0) (zd (i := .aload_n 0) (n := 1) (by decide +kernel)) rfl rfl <|
  bb_lift (fun _ => q_dup (zd (i := .dup) (n := 1) (by decide +kernel)) rfl) <|
  bb_geti (k := 292) (ci := 9) (j := 44) (idx := 287) (zd (i := .getfield 287) (n := 3) (by decide +kernel)) (by decide +kernel) (by decide +kernel) (by decide +kernel) (by decide +kernel) rfl g1172 <|
  bb_lift (fun _ => q_iconst (n := 1) (zd (i := .iconst (1)) (n := 1) (by decide +kernel)) rfl) <|
  bb_lift (fun _ => q_isub (zd (i := .isub) (n := 1) (by decide +kernel))) <|
  bb_puti (k := 292) (ci := 9) (j := 44) (idx := 287) (zd (i := .putfield 287) (n := 3) (by decide +kernel)) (by decide +kernel) (by decide +kernel) (by decide +kernel) (by decide +kernel) g1172 rfl rfl <|
  bb_aload_n (n := 0) (i := 0) (zd (i := .aload_n 0) (n := 1) (by decide +kernel)) rfl rfl <|
  bb_lift (fun _ => q_dup (zd (i := .dup) (n := 1) (by decide +kernel)) rfl) <|
  bb_geti (k := 292) (ci := 9) (j := 12) (idx := 227) (zd (i := .getfield 227) (n := 3) (by decide +kernel)) (by decide +kernel) (by decide +kernel) (by decide +kernel) (by decide +kernel) rfl g1140 <|
  bb_lift (fun _ => q_iconst (n := 1) (zd (i := .iconst (1)) (n := 1) (by decide +kernel)) rfl) <|
  bb_lift (fun _ => q_isub (zd (i := .isub) (n := 1) (by decide +kernel))) <|
  bb_puti (k := 292) (ci := 9) (j := 12) (idx := 227) (zd (i := .putfield 227) (n := 3) (by decide +kernel)) (by decide +kernel) (by decide +kernel) (by decide +kernel) (by decide +kernel) g1140 rfl rfl <|
  bb_aload_n (n := 0) (i := 0) (zd (i := .aload_n 0) (n := 1) (by decide +kernel)) rfl rfl <|
  bb_callVV (idx := 221) (k := 292) (ci := 9) (N := n_X9_goesOn) (As := []) (st := []) (zd (i := .invokevirtual 221) (n := 3) (by decide +kernel)) to_X9_goesOn g1378 g1380 g53 (Nat.le_of_ble_eq_true rfl) (by decide +kernel) (by decide +kernel) (by decide +kernel) rfl rfl rfl hc kk
theorem w_X9_expression_142 {Q : qQ} {I : qMI} {L : qML} {R : qMR} {a1 : Int32} {a2 : Int32} (k : wkB l G (d + 1) n_X9_expression Q 96 [.ref 292, .int a1, .int a2] [] I L R) : wkB l G (d + 1) n_X9_expression Q 142 [.ref 292, .int a1, .int a2] [] I L R :=
  bb_lift (fun _ => q_goto (off := -46) (tgt := 96) (zd (i := .goto (-46)) (n := 3) (by decide +kernel)) (by decide)) k
theorem w_X9_expression_145 {Q : qQ} {I : qMI} {L : qML} {R : qMR} {a1 : Int32} {a2 : Int32} {P : Int32 → qMI → qML → Prop} (hc : wkI l G d n_X9_is [.ref 292, .int 8] I L R P) (kk : ∀ y I' L', P y I' L' → wkB l G (d + 1) n_X9_expression Q 151 [.ref 292, .int a1, .int a2] [.int y] I' L' R) : wkB l G (d + 1) n_X9_expression Q 145 [.ref 292, .int a1, .int a2] [] I L R :=
  bb_aload_n (n := 0) (i := 0) (zd (i := .aload_n 0) (n := 1) (by decide +kernel)) rfl rfl <|
  bb_lift (fun _ => q_bipush (n := 8) (zd (i := .bipush (8)) (n := 2) (by decide +kernel)) rfl) <|
  bb_callVI (idx := 218) (k := 292) (ci := 9) (N := n_X9_is) (As := [.int 8]) (st := []) (zd (i := .invokevirtual 218) (n := 3) (by decide +kernel)) to_X9_is g1362 g1364 g49 (Nat.le_of_ble_eq_true rfl) (by decide +kernel) (by decide +kernel) (by decide +kernel) rfl rfl rfl hc kk
theorem w_X9_expression_151 {Q : qQ} {I : qMI} {L : qML} {R : qMR} {a1 : Int32} {a2 : Int32} {s0 : Int32} (kt : ¬ s0 = 0 → wkB l G (d + 1) n_X9_expression Q 181 [.ref 292, .int a1, .int a2] [] I L R) (kf : s0 = 0 → wkB l G (d + 1) n_X9_expression Q 154 [.ref 292, .int a1, .int a2] [] I L R) : wkB l G (d + 1) n_X9_expression Q 151 [.ref 292, .int a1, .int a2] [.int s0] I L R :=
  (fun lv hl => q_if_ne (off := 30) (tgt := 181) (zd (i := .ifCond .ne (30)) (n := 3) (by decide +kernel)) (by decide) (fun h => (kt h) lv hl) (fun h => (kf h) lv hl))
theorem w_X9_expression_154 {Q : qQ} {I : qMI} {L : qML} {R : qMR} {a1 : Int32} {a2 : Int32} {P : Int32 → qMI → qML → Prop} (hc : wkI l G d n_X9_is [.ref 292, .int 9] I L R P) (kk : ∀ y I' L', P y I' L' → wkB l G (d + 1) n_X9_expression Q 160 [.ref 292, .int a1, .int a2] [.int y] I' L' R) : wkB l G (d + 1) n_X9_expression Q 154 [.ref 292, .int a1, .int a2] [] I L R :=
  bb_aload_n (n := 0) (i := 0) (zd (i := .aload_n 0) (n := 1) (by decide +kernel)) rfl rfl <|
  bb_lift (fun _ => q_bipush (n := 9) (zd (i := .bipush (9)) (n := 2) (by decide +kernel)) rfl) <|
  bb_callVI (idx := 218) (k := 292) (ci := 9) (N := n_X9_is) (As := [.int 9]) (st := []) (zd (i := .invokevirtual 218) (n := 3) (by decide +kernel)) to_X9_is g1362 g1364 g49 (Nat.le_of_ble_eq_true rfl) (by decide +kernel) (by decide +kernel) (by decide +kernel) rfl rfl rfl hc kk
theorem w_X9_expression_160 {Q : qQ} {I : qMI} {L : qML} {R : qMR} {a1 : Int32} {a2 : Int32} {s0 : Int32} (kt : ¬ s0 = 0 → wkB l G (d + 1) n_X9_expression Q 181 [.ref 292, .int a1, .int a2] [] I L R) (kf : s0 = 0 → wkB l G (d + 1) n_X9_expression Q 163 [.ref 292, .int a1, .int a2] [] I L R) : wkB l G (d + 1) n_X9_expression Q 160 [.ref 292, .int a1, .int a2] [.int s0] I L R :=
  (fun lv hl => q_if_ne (off := 21) (tgt := 181) (zd (i := .ifCond .ne (21)) (n := 3) (by decide +kernel)) (by decide) (fun h => (kt h) lv hl) (fun h => (kf h) lv hl))
theorem w_X9_expression_163 {Q : qQ} {I : qMI} {L : qML} {R : qMR} {a1 : Int32} {a2 : Int32} {P : Int32 → qMI → qML → Prop} (hc : wkI l G d n_X9_is [.ref 292, .int 10] I L R P) (kk : ∀ y I' L', P y I' L' → wkB l G (d + 1) n_X9_expression Q 169 [.ref 292, .int a1, .int a2] [.int y] I' L' R) : wkB l G (d + 1) n_X9_expression Q 163 [.ref 292, .int a1, .int a2] [] I L R :=
  bb_aload_n (n := 0) (i := 0) (zd (i := .aload_n 0) (n := 1) (by decide +kernel)) rfl rfl <|
  bb_lift (fun _ => q_bipush (n := 10) (zd (i := .bipush (10)) (n := 2) (by decide +kernel)) rfl) <|
  bb_callVI (idx := 218) (k := 292) (ci := 9) (N := n_X9_is) (As := [.int 10]) (st := []) (zd (i := .invokevirtual 218) (n := 3) (by decide +kernel)) to_X9_is g1362 g1364 g49 (Nat.le_of_ble_eq_true rfl) (by decide +kernel) (by decide +kernel) (by decide +kernel) rfl rfl rfl hc kk
theorem w_X9_expression_169 {Q : qQ} {I : qMI} {L : qML} {R : qMR} {a1 : Int32} {a2 : Int32} {s0 : Int32} (kt : ¬ s0 = 0 → wkB l G (d + 1) n_X9_expression Q 181 [.ref 292, .int a1, .int a2] [] I L R) (kf : s0 = 0 → wkB l G (d + 1) n_X9_expression Q 172 [.ref 292, .int a1, .int a2] [] I L R) : wkB l G (d + 1) n_X9_expression Q 169 [.ref 292, .int a1, .int a2] [.int s0] I L R :=
  (fun lv hl => q_if_ne (off := 12) (tgt := 181) (zd (i := .ifCond .ne (12)) (n := 3) (by decide +kernel)) (by decide) (fun h => (kt h) lv hl) (fun h => (kf h) lv hl))
theorem w_X9_expression_172 {Q : qQ} {I : qMI} {L : qML} {R : qMR} {a1 : Int32} {a2 : Int32} {P : Int32 → qMI → qML → Prop} (hc : wkI l G d n_X9_is [.ref 292, .int 15] I L R P) (kk : ∀ y I' L', P y I' L' → wkB l G (d + 1) n_X9_expression Q 178 [.ref 292, .int a1, .int a2] [.int y] I' L' R) : wkB l G (d + 1) n_X9_expression Q 172 [.ref 292, .int a1, .int a2] [] I L R :=
  bb_aload_n (n := 0) (i := 0) (zd (i := .aload_n 0) (n := 1) (by decide +kernel)) rfl rfl <|
  bb_lift (fun _ => q_bipush (n := 15) (zd (i := .bipush (15)) (n := 2) (by decide +kernel)) rfl) <|
  bb_callVI (idx := 218) (k := 292) (ci := 9) (N := n_X9_is) (As := [.int 15]) (st := []) (zd (i := .invokevirtual 218) (n := 3) (by decide +kernel)) to_X9_is g1362 g1364 g49 (Nat.le_of_ble_eq_true rfl) (by decide +kernel) (by decide +kernel) (by decide +kernel) rfl rfl rfl hc kk
theorem w_X9_expression_178 {Q : qQ} {I : qMI} {L : qML} {R : qMR} {a1 : Int32} {a2 : Int32} {s0 : Int32} (kt : s0 = 0 → wkB l G (d + 1) n_X9_expression Q 185 [.ref 292, .int a1, .int a2] [] I L R) (kf : ¬ s0 = 0 → wkB l G (d + 1) n_X9_expression Q 181 [.ref 292, .int a1, .int a2] [] I L R) : wkB l G (d + 1) n_X9_expression Q 178 [.ref 292, .int a1, .int a2] [.int s0] I L R :=
  (fun lv hl => q_if_eq (off := 7) (tgt := 185) (zd (i := .ifCond .eq (7)) (n := 3) (by decide +kernel)) (by decide) (fun h => (kt h) lv hl) (fun h => (kf h) lv hl))
theorem w_X9_expression_181 {Q : qQ} {I : qMI} {L : qML} {R : qMR} {a1 : Int32} {a2 : Int32} (k : wkB l G (d + 1) n_X9_expression Q 186 [.ref 292, .int a1, .int a2] [.int 1] I L R) : wkB l G (d + 1) n_X9_expression Q 181 [.ref 292, .int a1, .int a2] [] I L R :=
  bb_lift (fun _ => q_iconst (n := 1) (zd (i := .iconst (1)) (n := 1) (by decide +kernel)) rfl) <|
  bb_lift (fun _ => q_goto (off := 4) (tgt := 186) (zd (i := .goto (4)) (n := 3) (by decide +kernel)) (by decide)) k
theorem w_X9_expression_185 {Q : qQ} {I : qMI} {L : qML} {R : qMR} {a1 : Int32} {a2 : Int32} (k : wkB l G (d + 1) n_X9_expression Q 186 [.ref 292, .int a1, .int a2] [.int 0] I L R) : wkB l G (d + 1) n_X9_expression Q 185 [.ref 292, .int a1, .int a2] [] I L R :=
  bb_lift (fun _ => q_iconst (n := 0) (zd (i := .iconst (0)) (n := 1) (by decide +kernel)) rfl) <|
  k
theorem w_X9_expression_186 {Q : qQ} {I : qMI} {L : qML} {R : qMR} {a1 : Int32} {a2 : Int32} {s0 : Int32} (kt : ¬ s0 = 0 → wkB l G (d + 1) n_X9_expression Q 210 [.ref 292, .int a1, .int s0] [] I L R) (kf : s0 = 0 → wkB l G (d + 1) n_X9_expression Q 191 [.ref 292, .int a1, .int s0] [] I L R) : wkB l G (d + 1) n_X9_expression Q 186 [.ref 292, .int a1, .int a2] [.int s0] I L R :=
  bb_istore_n (n := 2) (i := 2) (zd (i := .istore_n 2) (n := 1) (by decide +kernel)) rfl (by decide +kernel) (wkNl_i rfl) <|
  bb_iload_n (n := 2) (i := 2) (zd (i := .iload_n 2) (n := 1) (by decide +kernel)) rfl rfl <|
  (fun lv hl => q_if_ne (off := 22) (tgt := 210) (zd (i := .ifCond .ne (22)) (n := 3) (by decide +kernel)) (by decide) (fun h => (kt h) lv hl) (fun h => (kf h) lv hl))
theorem w_X9_expression_191 {Q : qQ} {I : qMI} {L : qML} {R : qMR} {a1 : Int32} {a2 : Int32} (kt : (I 292 12) ≤ a1 → wkB l G (d + 1) n_X9_expression Q 204 [.ref 292, .int a1, .int a2] [] I L R) (kf : ¬ (I 292 12) ≤ a1 → wkB l G (d + 1) n_X9_expression Q 199 [.ref 292, .int a1, .int a2] [] I L R) : wkB l G (d + 1) n_X9_expression Q 191 [.ref 292, .int a1, .int a2] [] I L R :=
  bb_aload_n (n := 0) (i := 0) (zd (i := .aload_n 0) (n := 1) (by decide +kernel)) rfl rfl <|
  bb_geti (k := 292) (ci := 9) (j := 12) (idx := 227) (zd (i := .getfield 227) (n := 3) (by decide +kernel)) (by decide +kernel) (by decide +kernel) (by decide +kernel) (by decide +kernel) rfl g1140 <|
  bb_iload_n (n := 1) (i := 1) (zd (i := .iload_n 1) (n := 1) (by decide +kernel)) rfl rfl <|
  (fun lv hl => q_icmp_le (off := 8) (tgt := 204) (zd (i := .if_icmp .le (8)) (n := 3) (by decide +kernel)) (by decide) (fun h => (kt h) lv hl) (fun h => (kf h) lv hl))
theorem w_X9_expression_199 {Q : qQ} {I : qMI} {L : qML} {R : qMR} {a1 : Int32} {a2 : Int32} {P : qMI → qML → Prop} (hc : wkV l G d n_X9_fail [.ref 292, .int 1] I L R P) (kk : ∀ I' L', P I' L' → wkB l G (d + 1) n_X9_expression Q 204 [.ref 292, .int a1, .int a2] [] I' L' R) : wkB l G (d + 1) n_X9_expression Q 199 [.ref 292, .int a1, .int a2] [] I L R :=
  bb_aload_n (n := 0) (i := 0) (zd (i := .aload_n 0) (n := 1) (by decide +kernel)) rfl rfl <|
  bb_lift (fun _ => q_iconst (n := 1) (zd (i := .iconst (1)) (n := 1) (by decide +kernel)) rfl) <|
  bb_callVV (idx := 215) (k := 292) (ci := 9) (N := n_X9_fail) (As := [.int 1]) (st := []) (zd (i := .invokevirtual 215) (n := 3) (by decide +kernel)) to_X9_fail g1374 g1376 g52 (Nat.le_of_ble_eq_true rfl) (by decide +kernel) (by decide +kernel) (by decide +kernel) rfl rfl rfl hc kk
theorem w_X9_expression_204 {Q : qQ} {I : qMI} {L : qML} {R : qMR} {a1 : Int32} {a2 : Int32} {P : qMI → qML → Prop} (hc : wkV l G d n_X9_comesOut [.ref 292, .int 0] I L R P) (kk : ∀ I' L', P I' L' → wkB l G (d + 1) n_X9_expression Q 209 [.ref 292, .int a1, .int a2] [] I' L' R) : wkB l G (d + 1) n_X9_expression Q 204 [.ref 292, .int a1, .int a2] [] I L R :=
  bb_aload_n (n := 0) (i := 0) (zd (i := .aload_n 0) (n := 1) (by decide +kernel)) rfl rfl <|
  bb_lift (fun _ => q_iconst (n := 0) (zd (i := .iconst (0)) (n := 1) (by decide +kernel)) rfl) <|
  bb_callVV (idx := 296) (k := 292) (ci := 9) (N := n_X9_comesOut) (As := [.int 0]) (st := []) (zd (i := .invokevirtual 296) (n := 3) (by decide +kernel)) to_X9_comesOut g1422 g1424 g64 (Nat.le_of_ble_eq_true rfl) (by decide +kernel) (by decide +kernel) (by decide +kernel) rfl rfl rfl hc kk
theorem w_X9_expression_209 {Q : qQ} {I : qMI} {L : qML} {R : qMR} {a1 : Int32} {a2 : Int32} (hQ : Q none 336 I L R) : wkB l G (d + 1) n_X9_expression Q 209 [.ref 292, .int a1, .int a2] [] I L R :=
  (fun lv hl => q_vret (zd (i := .return_) (n := 1) (by decide +kernel)) rfl (Nat.le_refl _) (Nat.le_refl _) hQ)
theorem w_X9_expression_210 {Q : qQ} {I : qMI} {L : qML} {R : qMR} {a1 : Int32} {a2 : Int32} {P : Int32 → qMI → qML → Prop} (hc : wkI l G d n_X9_is [.ref 292, .int 10] I L R P) (kk : ∀ y I' L', P y I' L' → wkB l G (d + 1) n_X9_expression Q 217 [.ref 292, .int a1, .int a2] [.int y, .ref 292] I' L' R) : wkB l G (d + 1) n_X9_expression Q 210 [.ref 292, .int a1, .int a2] [] I L R :=
  bb_aload_n (n := 0) (i := 0) (zd (i := .aload_n 0) (n := 1) (by decide +kernel)) rfl rfl <|
  bb_aload_n (n := 0) (i := 0) (zd (i := .aload_n 0) (n := 1) (by decide +kernel)) rfl rfl <|
  bb_lift (fun _ => q_bipush (n := 10) (zd (i := .bipush (10)) (n := 2) (by decide +kernel)) rfl) <|
  bb_callVI (idx := 218) (k := 292) (ci := 9) (N := n_X9_is) (As := [.int 10]) (st := [.ref 292]) (zd (i := .invokevirtual 218) (n := 3) (by decide +kernel)) to_X9_is g1362 g1364 g49 (Nat.le_of_ble_eq_true rfl) (by decide +kernel) (by decide +kernel) (by decide +kernel) rfl rfl rfl hc kk
theorem w_X9_expression_217 {Q : qQ} {I : qMI} {L : qML} {R : qMR} {a1 : Int32} {a2 : Int32} {s1 : Int32} (kt : ¬ s1 = 0 → wkB l G (d + 1) n_X9_expression Q 229 [.ref 292, .int a1, .int a2] [.ref 292] I L R) (kf : s1 = 0 → wkB l G (d + 1) n_X9_expression Q 220 [.ref 292, .int a1, .int a2] [.ref 292] I L R) : wkB l G (d + 1) n_X9_expression Q 217 [.ref 292, .int a1, .int a2] [.int s1, .ref 292] I L R :=
  (fun lv hl => q_if_ne (off := 12) (tgt := 229) (zd (i := .ifCond .ne (12)) (n := 3) (by decide +kernel)) (by decide) (fun h => (kt h) lv hl) (fun h => (kf h) lv hl))
theorem w_X9_expression_220 {Q : qQ} {I : qMI} {L : qML} {R : qMR} {a1 : Int32} {a2 : Int32} {P : Int32 → qMI → qML → Prop} (hc : wkI l G d n_X9_is [.ref 292, .int 15] I L R P) (kk : ∀ y I' L', P y I' L' → wkB l G (d + 1) n_X9_expression Q 226 [.ref 292, .int a1, .int a2] [.int y, .ref 292] I' L' R) : wkB l G (d + 1) n_X9_expression Q 220 [.ref 292, .int a1, .int a2] [.ref 292] I L R :=
  bb_aload_n (n := 0) (i := 0) (zd (i := .aload_n 0) (n := 1) (by decide +kernel)) rfl rfl <|
  bb_lift (fun _ => q_bipush (n := 15) (zd (i := .bipush (15)) (n := 2) (by decide +kernel)) rfl) <|
  bb_callVI (idx := 218) (k := 292) (ci := 9) (N := n_X9_is) (As := [.int 15]) (st := [.ref 292]) (zd (i := .invokevirtual 218) (n := 3) (by decide +kernel)) to_X9_is g1362 g1364 g49 (Nat.le_of_ble_eq_true rfl) (by decide +kernel) (by decide +kernel) (by decide +kernel) rfl rfl rfl hc kk
theorem w_X9_expression_226 {Q : qQ} {I : qMI} {L : qML} {R : qMR} {a1 : Int32} {a2 : Int32} {s1 : Int32} (kt : s1 = 0 → wkB l G (d + 1) n_X9_expression Q 233 [.ref 292, .int a1, .int a2] [.ref 292] I L R) (kf : ¬ s1 = 0 → wkB l G (d + 1) n_X9_expression Q 229 [.ref 292, .int a1, .int a2] [.ref 292] I L R) : wkB l G (d + 1) n_X9_expression Q 226 [.ref 292, .int a1, .int a2] [.int s1, .ref 292] I L R :=
  (fun lv hl => q_if_eq (off := 7) (tgt := 233) (zd (i := .ifCond .eq (7)) (n := 3) (by decide +kernel)) (by decide) (fun h => (kt h) lv hl) (fun h => (kf h) lv hl))
theorem w_X9_expression_229 {Q : qQ} {I : qMI} {L : qML} {R : qMR} {a1 : Int32} {a2 : Int32} (k : wkB l G (d + 1) n_X9_expression Q 234 [.ref 292, .int a1, .int a2] [.int 1, .ref 292] I L R) : wkB l G (d + 1) n_X9_expression Q 229 [.ref 292, .int a1, .int a2] [.ref 292] I L R :=
  bb_lift (fun _ => q_iconst (n := 1) (zd (i := .iconst (1)) (n := 1) (by decide +kernel)) rfl) <|
  bb_lift (fun _ => q_goto (off := 4) (tgt := 234) (zd (i := .goto (4)) (n := 3) (by decide +kernel)) (by decide)) k
theorem w_X9_expression_233 {Q : qQ} {I : qMI} {L : qML} {R : qMR} {a1 : Int32} {a2 : Int32} (k : wkB l G (d + 1) n_X9_expression Q 234 [.ref 292, .int a1, .int a2] [.int 0, .ref 292] I L R) : wkB l G (d + 1) n_X9_expression Q 233 [.ref 292, .int a1, .int a2] [.ref 292] I L R :=
  bb_lift (fun _ => q_iconst (n := 0) (zd (i := .iconst (0)) (n := 1) (by decide +kernel)) rfl) <|
  k
theorem w_X9_expression_234 {Q : qQ} {I : qMI} {L : qML} {R : qMR} {a1 : Int32} {a2 : Int32} {s1 : Int32} {P : qMI → qML → Prop} (hc : wkV l G d n_X9_comesOut [.ref 292, .int s1] I L R P) (kk : ∀ I' L', P I' L' → wkB l G (d + 1) n_X9_expression Q 237 [.ref 292, .int a1, .int a2] [] I' L' R) : wkB l G (d + 1) n_X9_expression Q 234 [.ref 292, .int a1, .int a2] [.int s1, .ref 292] I L R :=
  bb_callVV (idx := 296) (k := 292) (ci := 9) (N := n_X9_comesOut) (As := [.int s1]) (st := []) (zd (i := .invokevirtual 296) (n := 3) (by decide +kernel)) to_X9_comesOut g1422 g1424 g64 (Nat.le_of_ble_eq_true rfl) (by decide +kernel) (by decide +kernel) (by decide +kernel) rfl rfl rfl hc kk
theorem w_X9_expression_237 {Q : qQ} {I : qMI} {L : qML} {R : qMR} (hR : wkR R) {a1 : Int32} {a2 : Int32} (h1 : vp_in (I 292 11) 403) (h2 : vp_in (I 292 44) 64) {P : qMI → qML → Prop} (hc : wkV l G d n_X9_goesOn [.ref 292] (qUp (qUp I 320 (I 292 44).toNatClampNeg (I 295 (I 292 11).toNatClampNeg)) 292 44 (((qUp I 320 (I 292 44).toNatClampNeg (I 295 (I 292 11).toNatClampNeg)) 292 44) + 1)) L R P) (kk : ∀ I' L', P I' L' → wkB l G (d + 1) n_X9_expression Q 269 [.ref 292, .int a1, .int a2] [] I' L' R) : wkB l G (d + 1) n_X9_expression Q 237 [.ref 292, .int a1, .int a2] [] I L R :=
  bb_aload_n (n := 0) (i := 0) (zd (i := .aload_n 0) (n := 1) (by decide +kernel)) rfl rfl <|
  bb_getr (k := 292) (ci := 9) (j := 43) (idx := 101) (a := 320) (zd (i := .getfield 101) (n := 3) (by decide +kernel)) (by decide +kernel) (by decide +kernel) (by decide +kernel) (by decide +kernel) rfl g1171 (hR 43 (by decide)) <|
  bb_aload_n (n := 0) (i := 0) (zd (i := .aload_n 0) (n := 1) (by decide +kernel)) rfl rfl <|
  bb_geti (k := 292) (ci := 9) (j := 44) (idx := 287) (zd (i := .getfield 287) (n := 3) (by decide +kernel)) (by decide +kernel) (by decide +kernel) (by decide +kernel) (by decide +kernel) rfl g1172 <|
  bb_aload_n (n := 0) (i := 0) (zd (i := .aload_n 0) (n := 1) (by decide +kernel)) rfl rfl <|
  bb_getr (k := 292) (ci := 9) (j := 5) (idx := 20) (a := 295) (zd (i := .getfield 20) (n := 3) (by decide +kernel)) (by decide +kernel) (by decide +kernel) (by decide +kernel) (by decide +kernel) rfl g1133 (hR 5 (by decide)) <|
  bb_aload_n (n := 0) (i := 0) (zd (i := .aload_n 0) (n := 1) (by decide +kernel)) rfl rfl <|
  bb_geti (k := 292) (ci := 9) (j := 11) (idx := 203) (zd (i := .getfield 203) (n := 3) (by decide +kernel)) (by decide +kernel) (by decide +kernel) (by decide +kernel) (by decide +kernel) rfl g1139 <|
  bb_lift (fun _ => q_iald (k := 295) (zd (i := .iaload) (n := 1) (by decide +kernel)) (by decide +kernel) (by decide +kernel) h1) <|
  bb_lift (fun _ => q_iast (k := 320) (zd (i := .iastore) (n := 1) (by decide +kernel)) (by decide +kernel) (by decide +kernel) h2) <|
  bb_aload_n (n := 0) (i := 0) (zd (i := .aload_n 0) (n := 1) (by decide +kernel)) rfl rfl <|
  bb_lift (fun _ => q_dup (zd (i := .dup) (n := 1) (by decide +kernel)) rfl) <|
  bb_geti (k := 292) (ci := 9) (j := 44) (idx := 287) (zd (i := .getfield 287) (n := 3) (by decide +kernel)) (by decide +kernel) (by decide +kernel) (by decide +kernel) (by decide +kernel) rfl g1172 <|
  bb_lift (fun _ => q_iconst (n := 1) (zd (i := .iconst (1)) (n := 1) (by decide +kernel)) rfl) <|
  bb_lift (fun _ => q_iadd (zd (i := .iadd) (n := 1) (by decide +kernel))) <|
  bb_puti (k := 292) (ci := 9) (j := 44) (idx := 287) (zd (i := .putfield 287) (n := 3) (by decide +kernel)) (by decide +kernel) (by decide +kernel) (by decide +kernel) (by decide +kernel) g1172 rfl rfl <|
  bb_aload_n (n := 0) (i := 0) (zd (i := .aload_n 0) (n := 1) (by decide +kernel)) rfl rfl <|
  bb_callVV (idx := 221) (k := 292) (ci := 9) (N := n_X9_goesOn) (As := []) (st := []) (zd (i := .invokevirtual 221) (n := 3) (by decide +kernel)) to_X9_goesOn g1378 g1380 g53 (Nat.le_of_ble_eq_true rfl) (by decide +kernel) (by decide +kernel) (by decide +kernel) rfl rfl rfl hc kk
theorem w_X9_expression_269 {Q : qQ} {I : qMI} {L : qML} {R : qMR} {a1 : Int32} {a2 : Int32} (k : wkB l G (d + 1) n_X9_expression Q 12 [.ref 292, .int a1, .int a2] [] I L R) : wkB l G (d + 1) n_X9_expression Q 269 [.ref 292, .int a1, .int a2] [] I L R :=
  bb_lift (fun _ => q_goto (off := -257) (tgt := 12) (zd (i := .goto (-257)) (n := 3) (by decide +kernel)) (by decide)) k
theorem w_X9_expression_272 {Q : qQ} {I : qMI} {L : qML} {R : qMR} {a1 : Int32} {a2 : Int32} (hQ : Q none 336 I L R) : wkB l G (d + 1) n_X9_expression Q 272 [.ref 292, .int a1, .int a2] [] I L R :=
  (fun lv hl => q_vret (zd (i := .return_) (n := 1) (by decide +kernel)) rfl (Nat.le_refl _) (Nat.le_refl _) hQ)
theorem w_X9_term_0 {Q : qQ} {I : qMI} {L : qML} {R : qMR} (hR : wkR R)  (h1 : vp_in (I 292 34) 260) (kt : ¬ ((qUp I 316 (I 292 34).toNatClampNeg (I 292 40)) 292 13) = 0 → wkB l G (d + 1) n_X9_term Q 24 [.ref 292] [] (qUp I 316 (I 292 34).toNatClampNeg (I 292 40)) L R) (kf : ((qUp I 316 (I 292 34).toNatClampNeg (I 292 40)) 292 13) = 0 → wkB l G (d + 1) n_X9_term Q 20 [.ref 292] [] (qUp I 316 (I 292 34).toNatClampNeg (I 292 40)) L R) : wkB l G (d + 1) n_X9_term Q 0 [.ref 292] [] I L R :=
  bb_aload_n (n := 0) (i := 0) (zd (i := .aload_n 0) (n := 1) (by decide +kernel)) rfl rfl <|
  bb_getr (k := 292) (ci := 9) (j := 38) (idx := 89) (a := 316) (zd (i := .getfield 89) (n := 3) (by decide +kernel)) (by decide +kernel) (by decide +kernel) (by decide +kernel) (by decide +kernel) rfl g1166 (hR 38 (by decide)) <|
  bb_aload_n (n := 0) (i := 0) (zd (i := .aload_n 0) (n := 1) (by decide +kernel)) rfl rfl <|
  bb_geti (k := 292) (ci := 9) (j := 34) (idx := 239) (zd (i := .getfield 239) (n := 3) (by decide +kernel)) (by decide +kernel) (by decide +kernel) (by decide +kernel) (by decide +kernel) rfl g1162 <|
  bb_aload_n (n := 0) (i := 0) (zd (i := .aload_n 0) (n := 1) (by decide +kernel)) rfl rfl <|
  bb_geti (k := 292) (ci := 9) (j := 40) (idx := 242) (zd (i := .getfield 242) (n := 3) (by decide +kernel)) (by decide +kernel) (by decide +kernel) (by decide +kernel) (by decide +kernel) rfl g1168 <|
  bb_lift (fun _ => q_iast (k := 316) (zd (i := .iastore) (n := 1) (by decide +kernel)) (by decide +kernel) (by decide +kernel) h1) <|
  bb_aload_n (n := 0) (i := 0) (zd (i := .aload_n 0) (n := 1) (by decide +kernel)) rfl rfl <|
  bb_geti (k := 292) (ci := 9) (j := 13) (idx := 200) (zd (i := .getfield 200) (n := 3) (by decide +kernel)) (by decide +kernel) (by decide +kernel) (by decide +kernel) (by decide +kernel) rfl g1141 <|
  (fun lv hl => q_if_ne (off := 7) (tgt := 24) (zd (i := .ifCond .ne (7)) (n := 3) (by decide +kernel)) (by decide) (fun h => (kt h) lv hl) (fun h => (kf h) lv hl))
theorem w_X9_term_20 {Q : qQ} {I : qMI} {L : qML} {R : qMR}  {P : qMI → qML → Prop} (hc : wkV l G d n_X9_expression [.ref 292] I L R P) (kk : ∀ I' L', P I' L' → wkB l G (d + 1) n_X9_term Q 24 [.ref 292] [] I' L' R) : wkB l G (d + 1) n_X9_term Q 20 [.ref 292] [] I L R :=
  bb_aload_n (n := 0) (i := 0) (zd (i := .aload_n 0) (n := 1) (by decide +kernel)) rfl rfl <|
  bb_callVV (idx := 281) (k := 292) (ci := 9) (N := n_X9_expression) (As := []) (st := []) (zd (i := .invokevirtual 281) (n := 3) (by decide +kernel)) to_X9_expression g1410 g1412 g61 (Nat.le_of_ble_eq_true rfl) (by decide +kernel) (by decide +kernel) (by decide +kernel) rfl rfl rfl hc kk
theorem w_X9_term_24 {Q : qQ} {I : qMI} {L : qML} {R : qMR} (hR : wkR R)  (h1 : vp_in (I 292 34) 260) (hQ : Q none 336 (qUp (qUp I 317 (I 292 34).toNatClampNeg (I 292 40)) 292 34 (((qUp I 317 (I 292 34).toNatClampNeg (I 292 40)) 292 34) + 1)) L R) : wkB l G (d + 1) n_X9_term Q 24 [.ref 292] [] I L R :=
  bb_aload_n (n := 0) (i := 0) (zd (i := .aload_n 0) (n := 1) (by decide +kernel)) rfl rfl <|
  bb_getr (k := 292) (ci := 9) (j := 39) (idx := 92) (a := 317) (zd (i := .getfield 92) (n := 3) (by decide +kernel)) (by decide +kernel) (by decide +kernel) (by decide +kernel) (by decide +kernel) rfl g1167 (hR 39 (by decide)) <|
  bb_aload_n (n := 0) (i := 0) (zd (i := .aload_n 0) (n := 1) (by decide +kernel)) rfl rfl <|
  bb_geti (k := 292) (ci := 9) (j := 34) (idx := 239) (zd (i := .getfield 239) (n := 3) (by decide +kernel)) (by decide +kernel) (by decide +kernel) (by decide +kernel) (by decide +kernel) rfl g1162 <|
  bb_aload_n (n := 0) (i := 0) (zd (i := .aload_n 0) (n := 1) (by decide +kernel)) rfl rfl <|
  bb_geti (k := 292) (ci := 9) (j := 40) (idx := 242) (zd (i := .getfield 242) (n := 3) (by decide +kernel)) (by decide +kernel) (by decide +kernel) (by decide +kernel) (by decide +kernel) rfl g1168 <|
  bb_lift (fun _ => q_iast (k := 317) (zd (i := .iastore) (n := 1) (by decide +kernel)) (by decide +kernel) (by decide +kernel) h1) <|
  bb_aload_n (n := 0) (i := 0) (zd (i := .aload_n 0) (n := 1) (by decide +kernel)) rfl rfl <|
  bb_lift (fun _ => q_dup (zd (i := .dup) (n := 1) (by decide +kernel)) rfl) <|
  bb_geti (k := 292) (ci := 9) (j := 34) (idx := 239) (zd (i := .getfield 239) (n := 3) (by decide +kernel)) (by decide +kernel) (by decide +kernel) (by decide +kernel) (by decide +kernel) rfl g1162 <|
  bb_lift (fun _ => q_iconst (n := 1) (zd (i := .iconst (1)) (n := 1) (by decide +kernel)) rfl) <|
  bb_lift (fun _ => q_iadd (zd (i := .iadd) (n := 1) (by decide +kernel))) <|
  bb_puti (k := 292) (ci := 9) (j := 34) (idx := 239) (zd (i := .putfield 239) (n := 3) (by decide +kernel)) (by decide +kernel) (by decide +kernel) (by decide +kernel) (by decide +kernel) g1162 rfl rfl <|
  (fun lv hl => q_vret (zd (i := .return_) (n := 1) (by decide +kernel)) rfl (Nat.le_refl _) (Nat.le_refl _) hQ)
theorem w_X9_tellLaw_0 {Q : qQ} {I : qMI} {L : qML} {R : qMR} {a1 : Int32} {P : qMI → qML → Prop} (hc : wkV l G d n_X9_must [.ref 292, .int 5] I L R P) (kk : ∀ I' L', P I' L' → wkB l G (d + 1) n_X9_tellLaw Q 5 [.ref 292, .int a1, wkU, wkU] [] I' L' R) : wkB l G (d + 1) n_X9_tellLaw Q 0 [.ref 292, .int a1, wkU, wkU] [] I L R :=
  bb_aload_n (n := 0) (i := 0) (zd (i := .aload_n 0) (n := 1) (by decide +kernel)) rfl rfl <|
  bb_lift (fun _ => q_iconst (n := 5) (zd (i := .iconst (5)) (n := 1) (by decide +kernel)) rfl) <|
  bb_callVV (idx := 258) (k := 292) (ci := 9) (N := n_X9_must) (As := [.int 5]) (st := []) (zd (i := .invokevirtual 258) (n := 3) (by decide +kernel)) to_X9_must g1386 g1388 g55 (Nat.le_of_ble_eq_true rfl) (by decide +kernel) (by decide +kernel) (by decide +kernel) rfl rfl rfl hc kk
theorem w_X9_tellLaw_5 {Q : qQ} {I : qMI} {L : qML} {R : qMR} {a1 : Int32} (k : wkB l G (d + 1) n_X9_tellLaw Q 12 [.ref 292, .int a1, .int (I 292 34), .int 0] [] I L R) : wkB l G (d + 1) n_X9_tellLaw Q 5 [.ref 292, .int a1, wkU, wkU] [] I L R :=
  bb_aload_n (n := 0) (i := 0) (zd (i := .aload_n 0) (n := 1) (by decide +kernel)) rfl rfl <|
  bb_geti (k := 292) (ci := 9) (j := 34) (idx := 239) (zd (i := .getfield 239) (n := 3) (by decide +kernel)) (by decide +kernel) (by decide +kernel) (by decide +kernel) (by decide +kernel) rfl g1162 <|
  bb_istore_n (n := 2) (i := 2) (zd (i := .istore_n 2) (n := 1) (by decide +kernel)) rfl (by decide +kernel) (wkNl_i rfl) <|
  bb_lift (fun _ => q_iconst (n := 0) (zd (i := .iconst (0)) (n := 1) (by decide +kernel)) rfl) <|
  bb_istore_n (n := 3) (i := 3) (zd (i := .istore_n 3) (n := 1) (by decide +kernel)) rfl (by decide +kernel) (wkNl_i rfl) <|
  k
theorem w_X9_tellLaw_12 {Q : qQ} {I : qMI} {L : qML} {R : qMR} {a1 : Int32} {a2 : Int32} {a3 : Int32} (kt : ¬ (I 292 13) = 0 → wkB l G (d + 1) n_X9_tellLaw Q 129 [.ref 292, .int a1, .int a2, .int a3] [] I L R) (kf : (I 292 13) = 0 → wkB l G (d + 1) n_X9_tellLaw Q 19 [.ref 292, .int a1, .int a2, .int a3] [] I L R) : wkB l G (d + 1) n_X9_tellLaw Q 12 [.ref 292, .int a1, .int a2, .int a3] [] I L R :=
  bb_aload_n (n := 0) (i := 0) (zd (i := .aload_n 0) (n := 1) (by decide +kernel)) rfl rfl <|
  bb_geti (k := 292) (ci := 9) (j := 13) (idx := 200) (zd (i := .getfield 200) (n := 3) (by decide +kernel)) (by decide +kernel) (by decide +kernel) (by decide +kernel) (by decide +kernel) rfl g1141 <|
  (fun lv hl => q_if_ne (off := 113) (tgt := 129) (zd (i := .ifCond .ne (113)) (n := 3) (by decide +kernel)) (by decide) (fun h => (kt h) lv hl) (fun h => (kf h) lv hl))
theorem w_X9_tellLaw_19 {Q : qQ} {I : qMI} {L : qML} {R : qMR} {a1 : Int32} {a2 : Int32} {a3 : Int32} {P : Int32 → qMI → qML → Prop} (hc : wkI l G d n_X9_is [.ref 292, .int 31] I L R P) (kk : ∀ y I' L', P y I' L' → wkB l G (d + 1) n_X9_tellLaw Q 25 [.ref 292, .int a1, .int a2, .int a3] [.int y] I' L' R) : wkB l G (d + 1) n_X9_tellLaw Q 19 [.ref 292, .int a1, .int a2, .int a3] [] I L R :=
  bb_aload_n (n := 0) (i := 0) (zd (i := .aload_n 0) (n := 1) (by decide +kernel)) rfl rfl <|
  bb_lift (fun _ => q_bipush (n := 31) (zd (i := .bipush (31)) (n := 2) (by decide +kernel)) rfl) <|
  bb_callVI (idx := 218) (k := 292) (ci := 9) (N := n_X9_is) (As := [.int 31]) (st := []) (zd (i := .invokevirtual 218) (n := 3) (by decide +kernel)) to_X9_is g1362 g1364 g49 (Nat.le_of_ble_eq_true rfl) (by decide +kernel) (by decide +kernel) (by decide +kernel) rfl rfl rfl hc kk
theorem w_X9_tellLaw_25 {Q : qQ} {I : qMI} {L : qML} {R : qMR} {a1 : Int32} {a2 : Int32} {a3 : Int32} {s0 : Int32} (kt : s0 = 0 → wkB l G (d + 1) n_X9_tellLaw Q 129 [.ref 292, .int a1, .int a2, .int a3] [] I L R) (kf : ¬ s0 = 0 → wkB l G (d + 1) n_X9_tellLaw Q 28 [.ref 292, .int a1, .int a2, .int a3] [] I L R) : wkB l G (d + 1) n_X9_tellLaw Q 25 [.ref 292, .int a1, .int a2, .int a3] [.int s0] I L R :=
  (fun lv hl => q_if_eq (off := 104) (tgt := 129) (zd (i := .ifCond .eq (104)) (n := 3) (by decide +kernel)) (by decide) (fun h => (kt h) lv hl) (fun h => (kf h) lv hl))
theorem w_X9_tellLaw_28 {Q : qQ} {I : qMI} {L : qML} {R : qMR} {a1 : Int32} {a2 : Int32} {a3 : Int32} (kt : ¬ a3 = 4 → wkB l G (d + 1) n_X9_tellLaw Q 38 [.ref 292, .int a1, .int a2, .int a3] [] I L R) (kf : a3 = 4 → wkB l G (d + 1) n_X9_tellLaw Q 33 [.ref 292, .int a1, .int a2, .int a3] [] I L R) : wkB l G (d + 1) n_X9_tellLaw Q 28 [.ref 292, .int a1, .int a2, .int a3] [] I L R :=
  bb_iload_n (n := 3) (i := 3) (zd (i := .iload_n 3) (n := 1) (by decide +kernel)) rfl rfl <|
  bb_lift (fun _ => q_iconst (n := 4) (zd (i := .iconst (4)) (n := 1) (by decide +kernel)) rfl) <|
  (fun lv hl => q_icmp_ne (off := 8) (tgt := 38) (zd (i := .if_icmp .ne (8)) (n := 3) (by decide +kernel)) (by decide) (fun h => (kt h) lv hl) (fun h => (kf h) lv hl))
theorem w_X9_tellLaw_33 {Q : qQ} {I : qMI} {L : qML} {R : qMR} {a1 : Int32} {a2 : Int32} {a3 : Int32} {P : qMI → qML → Prop} (hc : wkV l G d n_X9_fail [.ref 292, .int 2] I L R P) (kk : ∀ I' L', P I' L' → wkB l G (d + 1) n_X9_tellLaw Q 38 [.ref 292, .int a1, .int a2, .int a3] [] I' L' R) : wkB l G (d + 1) n_X9_tellLaw Q 33 [.ref 292, .int a1, .int a2, .int a3] [] I L R :=
  bb_aload_n (n := 0) (i := 0) (zd (i := .aload_n 0) (n := 1) (by decide +kernel)) rfl rfl <|
  bb_lift (fun _ => q_iconst (n := 2) (zd (i := .iconst (2)) (n := 1) (by decide +kernel)) rfl) <|
  bb_callVV (idx := 215) (k := 292) (ci := 9) (N := n_X9_fail) (As := [.int 2]) (st := []) (zd (i := .invokevirtual 215) (n := 3) (by decide +kernel)) to_X9_fail g1374 g1376 g52 (Nat.le_of_ble_eq_true rfl) (by decide +kernel) (by decide +kernel) (by decide +kernel) rfl rfl rfl hc kk
theorem w_X9_tellLaw_38 {Q : qQ} {I : qMI} {L : qML} {R : qMR} {a1 : Int32} {a2 : Int32} {a3 : Int32} (kt : (I 292 13) ≤ 0 → wkB l G (d + 1) n_X9_tellLaw Q 46 [.ref 292, .int a1, .int a2, .int a3] [] I L R) (kf : ¬ (I 292 13) ≤ 0 → wkB l G (d + 1) n_X9_tellLaw Q 45 [.ref 292, .int a1, .int a2, .int a3] [] I L R) : wkB l G (d + 1) n_X9_tellLaw Q 38 [.ref 292, .int a1, .int a2, .int a3] [] I L R :=
  bb_aload_n (n := 0) (i := 0) (zd (i := .aload_n 0) (n := 1) (by decide +kernel)) rfl rfl <|
  bb_geti (k := 292) (ci := 9) (j := 13) (idx := 200) (zd (i := .getfield 200) (n := 3) (by decide +kernel)) (by decide +kernel) (by decide +kernel) (by decide +kernel) (by decide +kernel) rfl g1141 <|
  (fun lv hl => q_if_le (off := 4) (tgt := 46) (zd (i := .ifCond .le (4)) (n := 3) (by decide +kernel)) (by decide) (fun h => (kt h) lv hl) (fun h => (kf h) lv hl))
theorem w_X9_tellLaw_45 {Q : qQ} {I : qMI} {L : qML} {R : qMR} {a1 : Int32} {a2 : Int32} {a3 : Int32} (hQ : Q none 336 I L R) : wkB l G (d + 1) n_X9_tellLaw Q 45 [.ref 292, .int a1, .int a2, .int a3] [] I L R :=
  (fun lv hl => q_vret (zd (i := .return_) (n := 1) (by decide +kernel)) rfl (Nat.le_refl _) (Nat.le_refl _) hQ)
theorem w_X9_tellLaw_46 {Q : qQ} {I : qMI} {L : qML} {R : qMR} {a1 : Int32} {a2 : Int32} {a3 : Int32} {P : qMI → qML → Prop} (hc : wkV l G d n_X9_goesOn [.ref 292] I L R P) (kk : ∀ I' L', P I' L' → wkB l G (d + 1) n_X9_tellLaw Q 53 [.ref 292, .int a1, .int a2, .int (a3 + 1)] [] I' L' R) : wkB l G (d + 1) n_X9_tellLaw Q 46 [.ref 292, .int a1, .int a2, .int a3] [] I L R :=
  bb_iinc (i := 3) (n := 1) (zd (i := .iinc 3 (1)) (n := 3) (by decide +kernel)) rfl rfl (by decide +kernel) (wkNl_i rfl) <|
  bb_aload_n (n := 0) (i := 0) (zd (i := .aload_n 0) (n := 1) (by decide +kernel)) rfl rfl <|
  bb_callVV (idx := 221) (k := 292) (ci := 9) (N := n_X9_goesOn) (As := []) (st := []) (zd (i := .invokevirtual 221) (n := 3) (by decide +kernel)) to_X9_goesOn g1378 g1380 g53 (Nat.le_of_ble_eq_true rfl) (by decide +kernel) (by decide +kernel) (by decide +kernel) rfl rfl rfl hc kk
theorem w_X9_tellLaw_53 {Q : qQ} {I : qMI} {L : qML} {R : qMR} (hR : wkR R) {a1 : Int32} {a2 : Int32} {a3 : Int32} (h1 : vp_in (I 292 34) 260) (h2 : vp_in ((qUp I 313 (I 292 34).toNatClampNeg (vp_nar .boolean 1)) 292 34) 260) {P : qMI → qML → Prop} (hc : wkV l G d n_X9_expression [.ref 292] (qUp (qUp I 313 (I 292 34).toNatClampNeg (vp_nar .boolean 1)) 314 ((qUp I 313 (I 292 34).toNatClampNeg (vp_nar .boolean 1)) 292 34).toNatClampNeg ((qUp I 313 (I 292 34).toNatClampNeg (vp_nar .boolean 1)) 292 40)) L R P) (kk : ∀ I' L', P I' L' → wkB l G (d + 1) n_X9_tellLaw Q 80 [.ref 292, .int a1, .int a2, .int a3] [] I' L' R) : wkB l G (d + 1) n_X9_tellLaw Q 53 [.ref 292, .int a1, .int a2, .int a3] [] I L R :=
  bb_aload_n (n := 0) (i := 0) (zd (i := .aload_n 0) (n := 1) (by decide +kernel)) rfl rfl <|
  bb_getr (k := 292) (ci := 9) (j := 35) (idx := 79) (a := 313) (zd (i := .getfield 79) (n := 3) (by decide +kernel)) (by decide +kernel) (by decide +kernel) (by decide +kernel) (by decide +kernel) rfl g1163 (hR 35 (by decide)) <|
  bb_aload_n (n := 0) (i := 0) (zd (i := .aload_n 0) (n := 1) (by decide +kernel)) rfl rfl <|
  bb_geti (k := 292) (ci := 9) (j := 34) (idx := 239) (zd (i := .getfield 239) (n := 3) (by decide +kernel)) (by decide +kernel) (by decide +kernel) (by decide +kernel) (by decide +kernel) rfl g1162 <|
  bb_lift (fun _ => q_iconst (n := 1) (zd (i := .iconst (1)) (n := 1) (by decide +kernel)) rfl) <|
  bb_lift (fun _ => q_zast (k := 313) (zd (i := .bastore) (n := 1) (by decide +kernel)) (by decide +kernel) (by decide +kernel) h1) <|
  bb_aload_n (n := 0) (i := 0) (zd (i := .aload_n 0) (n := 1) (by decide +kernel)) rfl rfl <|
  bb_getr (k := 292) (ci := 9) (j := 36) (idx := 83) (a := 314) (zd (i := .getfield 83) (n := 3) (by decide +kernel)) (by decide +kernel) (by decide +kernel) (by decide +kernel) (by decide +kernel) rfl g1164 (hR 36 (by decide)) <|
  bb_aload_n (n := 0) (i := 0) (zd (i := .aload_n 0) (n := 1) (by decide +kernel)) rfl rfl <|
  bb_geti (k := 292) (ci := 9) (j := 34) (idx := 239) (zd (i := .getfield 239) (n := 3) (by decide +kernel)) (by decide +kernel) (by decide +kernel) (by decide +kernel) (by decide +kernel) rfl g1162 <|
  bb_aload_n (n := 0) (i := 0) (zd (i := .aload_n 0) (n := 1) (by decide +kernel)) rfl rfl <|
  bb_geti (k := 292) (ci := 9) (j := 40) (idx := 242) (zd (i := .getfield 242) (n := 3) (by decide +kernel)) (by decide +kernel) (by decide +kernel) (by decide +kernel) (by decide +kernel) rfl g1168 <|
  bb_lift (fun _ => q_iast (k := 314) (zd (i := .iastore) (n := 1) (by decide +kernel)) (by decide +kernel) (by decide +kernel) h2) <|
  bb_aload_n (n := 0) (i := 0) (zd (i := .aload_n 0) (n := 1) (by decide +kernel)) rfl rfl <|
  bb_callVV (idx := 281) (k := 292) (ci := 9) (N := n_X9_expression) (As := []) (st := []) (zd (i := .invokevirtual 281) (n := 3) (by decide +kernel)) to_X9_expression g1410 g1412 g61 (Nat.le_of_ble_eq_true rfl) (by decide +kernel) (by decide +kernel) (by decide +kernel) rfl rfl rfl hc kk
theorem w_X9_tellLaw_80 {Q : qQ} {I : qMI} {L : qML} {R : qMR} {a1 : Int32} {a2 : Int32} {a3 : Int32} {P : qMI → qML → Prop} (hc : wkV l G d n_X9_must [.ref 292, .int 13] I L R P) (kk : ∀ I' L', P I' L' → wkB l G (d + 1) n_X9_tellLaw Q 86 [.ref 292, .int a1, .int a2, .int a3] [] I' L' R) : wkB l G (d + 1) n_X9_tellLaw Q 80 [.ref 292, .int a1, .int a2, .int a3] [] I L R :=
  bb_aload_n (n := 0) (i := 0) (zd (i := .aload_n 0) (n := 1) (by decide +kernel)) rfl rfl <|
  bb_lift (fun _ => q_bipush (n := 13) (zd (i := .bipush (13)) (n := 2) (by decide +kernel)) rfl) <|
  bb_callVV (idx := 258) (k := 292) (ci := 9) (N := n_X9_must) (As := [.int 13]) (st := []) (zd (i := .invokevirtual 258) (n := 3) (by decide +kernel)) to_X9_must g1386 g1388 g55 (Nat.le_of_ble_eq_true rfl) (by decide +kernel) (by decide +kernel) (by decide +kernel) rfl rfl rfl hc kk
theorem w_X9_tellLaw_86 {Q : qQ} {I : qMI} {L : qML} {R : qMR} (hR : wkR R) {a1 : Int32} {a2 : Int32} {a3 : Int32} (h1 : vp_in (I 292 34) 260) (kt : ¬ ((qUp I 315 (I 292 34).toNatClampNeg (I 292 40)) 292 13) = 0 → wkB l G (d + 1) n_X9_tellLaw Q 110 [.ref 292, .int a1, .int a2, .int a3] [] (qUp I 315 (I 292 34).toNatClampNeg (I 292 40)) L R) (kf : ((qUp I 315 (I 292 34).toNatClampNeg (I 292 40)) 292 13) = 0 → wkB l G (d + 1) n_X9_tellLaw Q 106 [.ref 292, .int a1, .int a2, .int a3] [] (qUp I 315 (I 292 34).toNatClampNeg (I 292 40)) L R) : wkB l G (d + 1) n_X9_tellLaw Q 86 [.ref 292, .int a1, .int a2, .int a3] [] I L R :=
  bb_aload_n (n := 0) (i := 0) (zd (i := .aload_n 0) (n := 1) (by decide +kernel)) rfl rfl <|
  bb_getr (k := 292) (ci := 9) (j := 37) (idx := 86) (a := 315) (zd (i := .getfield 86) (n := 3) (by decide +kernel)) (by decide +kernel) (by decide +kernel) (by decide +kernel) (by decide +kernel) rfl g1165 (hR 37 (by decide)) <|
  bb_aload_n (n := 0) (i := 0) (zd (i := .aload_n 0) (n := 1) (by decide +kernel)) rfl rfl <|
  bb_geti (k := 292) (ci := 9) (j := 34) (idx := 239) (zd (i := .getfield 239) (n := 3) (by decide +kernel)) (by decide +kernel) (by decide +kernel) (by decide +kernel) (by decide +kernel) rfl g1162 <|
  bb_aload_n (n := 0) (i := 0) (zd (i := .aload_n 0) (n := 1) (by decide +kernel)) rfl rfl <|
  bb_geti (k := 292) (ci := 9) (j := 40) (idx := 242) (zd (i := .getfield 242) (n := 3) (by decide +kernel)) (by decide +kernel) (by decide +kernel) (by decide +kernel) (by decide +kernel) rfl g1168 <|
  bb_lift (fun _ => q_iast (k := 315) (zd (i := .iastore) (n := 1) (by decide +kernel)) (by decide +kernel) (by decide +kernel) h1) <|
  bb_aload_n (n := 0) (i := 0) (zd (i := .aload_n 0) (n := 1) (by decide +kernel)) rfl rfl <|
  bb_geti (k := 292) (ci := 9) (j := 13) (idx := 200) (zd (i := .getfield 200) (n := 3) (by decide +kernel)) (by decide +kernel) (by decide +kernel) (by decide +kernel) (by decide +kernel) rfl g1141 <|
  (fun lv hl => q_if_ne (off := 7) (tgt := 110) (zd (i := .ifCond .ne (7)) (n := 3) (by decide +kernel)) (by decide) (fun h => (kt h) lv hl) (fun h => (kf h) lv hl))
theorem w_X9_tellLaw_106 {Q : qQ} {I : qMI} {L : qML} {R : qMR} {a1 : Int32} {a2 : Int32} {a3 : Int32} {P : qMI → qML → Prop} (hc : wkV l G d n_X9_expression [.ref 292] I L R P) (kk : ∀ I' L', P I' L' → wkB l G (d + 1) n_X9_tellLaw Q 110 [.ref 292, .int a1, .int a2, .int a3] [] I' L' R) : wkB l G (d + 1) n_X9_tellLaw Q 106 [.ref 292, .int a1, .int a2, .int a3] [] I L R :=
  bb_aload_n (n := 0) (i := 0) (zd (i := .aload_n 0) (n := 1) (by decide +kernel)) rfl rfl <|
  bb_callVV (idx := 281) (k := 292) (ci := 9) (N := n_X9_expression) (As := []) (st := []) (zd (i := .invokevirtual 281) (n := 3) (by decide +kernel)) to_X9_expression g1410 g1412 g61 (Nat.le_of_ble_eq_true rfl) (by decide +kernel) (by decide +kernel) (by decide +kernel) rfl rfl rfl hc kk
theorem w_X9_tellLaw_110 {Q : qQ} {I : qMI} {L : qML} {R : qMR} {a1 : Int32} {a2 : Int32} {a3 : Int32} {P : qMI → qML → Prop} (hc : wkV l G d n_X9_must [.ref 292, .int 32] I L R P) (kk : ∀ I' L', P I' L' → wkB l G (d + 1) n_X9_tellLaw Q 116 [.ref 292, .int a1, .int a2, .int a3] [] I' L' R) : wkB l G (d + 1) n_X9_tellLaw Q 110 [.ref 292, .int a1, .int a2, .int a3] [] I L R :=
  bb_aload_n (n := 0) (i := 0) (zd (i := .aload_n 0) (n := 1) (by decide +kernel)) rfl rfl <|
  bb_lift (fun _ => q_bipush (n := 32) (zd (i := .bipush (32)) (n := 2) (by decide +kernel)) rfl) <|
  bb_callVV (idx := 258) (k := 292) (ci := 9) (N := n_X9_must) (As := [.int 32]) (st := []) (zd (i := .invokevirtual 258) (n := 3) (by decide +kernel)) to_X9_must g1386 g1388 g55 (Nat.le_of_ble_eq_true rfl) (by decide +kernel) (by decide +kernel) (by decide +kernel) rfl rfl rfl hc kk
theorem w_X9_tellLaw_116 {Q : qQ} {I : qMI} {L : qML} {R : qMR} {a1 : Int32} {a2 : Int32} {a3 : Int32} {P : qMI → qML → Prop} (hc : wkV l G d n_X9_term [.ref 292] I L R P) (kk : ∀ I' L', P I' L' → wkB l G (d + 1) n_X9_tellLaw Q 120 [.ref 292, .int a1, .int a2, .int a3] [] I' L' R) : wkB l G (d + 1) n_X9_tellLaw Q 116 [.ref 292, .int a1, .int a2, .int a3] [] I L R :=
  bb_aload_n (n := 0) (i := 0) (zd (i := .aload_n 0) (n := 1) (by decide +kernel)) rfl rfl <|
  bb_callVV (idx := 284) (k := 292) (ci := 9) (N := n_X9_term) (As := []) (st := []) (zd (i := .invokevirtual 284) (n := 3) (by decide +kernel)) to_X9_term g1426 g1428 g65 (Nat.le_of_ble_eq_true rfl) (by decide +kernel) (by decide +kernel) (by decide +kernel) rfl rfl rfl hc kk
theorem w_X9_tellLaw_120 {Q : qQ} {I : qMI} {L : qML} {R : qMR} {a1 : Int32} {a2 : Int32} {a3 : Int32} {P : qMI → qML → Prop} (hc : wkV l G d n_X9_must [.ref 292, .int 33] I L R P) (kk : ∀ I' L', P I' L' → wkB l G (d + 1) n_X9_tellLaw Q 126 [.ref 292, .int a1, .int a2, .int a3] [] I' L' R) : wkB l G (d + 1) n_X9_tellLaw Q 120 [.ref 292, .int a1, .int a2, .int a3] [] I L R :=
  bb_aload_n (n := 0) (i := 0) (zd (i := .aload_n 0) (n := 1) (by decide +kernel)) rfl rfl <|
  bb_lift (fun _ => q_bipush (n := 33) (zd (i := .bipush (33)) (n := 2) (by decide +kernel)) rfl) <|
  bb_callVV (idx := 258) (k := 292) (ci := 9) (N := n_X9_must) (As := [.int 33]) (st := []) (zd (i := .invokevirtual 258) (n := 3) (by decide +kernel)) to_X9_must g1386 g1388 g55 (Nat.le_of_ble_eq_true rfl) (by decide +kernel) (by decide +kernel) (by decide +kernel) rfl rfl rfl hc kk
theorem w_X9_tellLaw_126 {Q : qQ} {I : qMI} {L : qML} {R : qMR} {a1 : Int32} {a2 : Int32} {a3 : Int32} (k : wkB l G (d + 1) n_X9_tellLaw Q 12 [.ref 292, .int a1, .int a2, .int a3] [] I L R) : wkB l G (d + 1) n_X9_tellLaw Q 126 [.ref 292, .int a1, .int a2, .int a3] [] I L R :=
  bb_lift (fun _ => q_goto (off := -114) (tgt := 12) (zd (i := .goto (-114)) (n := 3) (by decide +kernel)) (by decide)) k
theorem w_X9_tellLaw_129 {Q : qQ} {I : qMI} {L : qML} {R : qMR} (hR : wkR R) {a1 : Int32} {a2 : Int32} {a3 : Int32} (h1 : vp_in (I 292 34) 260) {P : qMI → qML → Prop} (hc : wkV l G d n_X9_term [.ref 292] (qUp I 313 (I 292 34).toNatClampNeg (vp_nar .boolean 0)) L R P) (kk : ∀ I' L', P I' L' → wkB l G (d + 1) n_X9_tellLaw Q 143 [.ref 292, .int a1, .int a2, .int a3] [] I' L' R) : wkB l G (d + 1) n_X9_tellLaw Q 129 [.ref 292, .int a1, .int a2, .int a3] [] I L R :=
  bb_aload_n (n := 0) (i := 0) (zd (i := .aload_n 0) (n := 1) (by decide +kernel)) rfl rfl <|
  bb_getr (k := 292) (ci := 9) (j := 35) (idx := 79) (a := 313) (zd (i := .getfield 79) (n := 3) (by decide +kernel)) (by decide +kernel) (by decide +kernel) (by decide +kernel) (by decide +kernel) rfl g1163 (hR 35 (by decide)) <|
  bb_aload_n (n := 0) (i := 0) (zd (i := .aload_n 0) (n := 1) (by decide +kernel)) rfl rfl <|
  bb_geti (k := 292) (ci := 9) (j := 34) (idx := 239) (zd (i := .getfield 239) (n := 3) (by decide +kernel)) (by decide +kernel) (by decide +kernel) (by decide +kernel) (by decide +kernel) rfl g1162 <|
  bb_lift (fun _ => q_iconst (n := 0) (zd (i := .iconst (0)) (n := 1) (by decide +kernel)) rfl) <|
  bb_lift (fun _ => q_zast (k := 313) (zd (i := .bastore) (n := 1) (by decide +kernel)) (by decide +kernel) (by decide +kernel) h1) <|
  bb_aload_n (n := 0) (i := 0) (zd (i := .aload_n 0) (n := 1) (by decide +kernel)) rfl rfl <|
  bb_callVV (idx := 284) (k := 292) (ci := 9) (N := n_X9_term) (As := []) (st := []) (zd (i := .invokevirtual 284) (n := 3) (by decide +kernel)) to_X9_term g1426 g1428 g65 (Nat.le_of_ble_eq_true rfl) (by decide +kernel) (by decide +kernel) (by decide +kernel) rfl rfl rfl hc kk
theorem w_X9_tellLaw_143 {Q : qQ} {I : qMI} {L : qML} {R : qMR} {a1 : Int32} {a2 : Int32} {a3 : Int32} {P : qMI → qML → Prop} (hc : wkV l G d n_X9_must [.ref 292, .int 4] I L R P) (kk : ∀ I' L', P I' L' → wkB l G (d + 1) n_X9_tellLaw Q 148 [.ref 292, .int a1, .int a2, .int a3] [] I' L' R) : wkB l G (d + 1) n_X9_tellLaw Q 143 [.ref 292, .int a1, .int a2, .int a3] [] I L R :=
  bb_aload_n (n := 0) (i := 0) (zd (i := .aload_n 0) (n := 1) (by decide +kernel)) rfl rfl <|
  bb_lift (fun _ => q_iconst (n := 4) (zd (i := .iconst (4)) (n := 1) (by decide +kernel)) rfl) <|
  bb_callVV (idx := 258) (k := 292) (ci := 9) (N := n_X9_must) (As := [.int 4]) (st := []) (zd (i := .invokevirtual 258) (n := 3) (by decide +kernel)) to_X9_must g1386 g1388 g55 (Nat.le_of_ble_eq_true rfl) (by decide +kernel) (by decide +kernel) (by decide +kernel) rfl rfl rfl hc kk
theorem w_X9_tellLaw_148 {Q : qQ} {I : qMI} {L : qML} {R : qMR} {a1 : Int32} {a2 : Int32} {a3 : Int32} (kt : (I 292 13) ≤ 0 → wkB l G (d + 1) n_X9_tellLaw Q 156 [.ref 292, .int a1, .int a2, .int a3] [] I L R) (kf : ¬ (I 292 13) ≤ 0 → wkB l G (d + 1) n_X9_tellLaw Q 155 [.ref 292, .int a1, .int a2, .int a3] [] I L R) : wkB l G (d + 1) n_X9_tellLaw Q 148 [.ref 292, .int a1, .int a2, .int a3] [] I L R :=
  bb_aload_n (n := 0) (i := 0) (zd (i := .aload_n 0) (n := 1) (by decide +kernel)) rfl rfl <|
  bb_geti (k := 292) (ci := 9) (j := 13) (idx := 200) (zd (i := .getfield 200) (n := 3) (by decide +kernel)) (by decide +kernel) (by decide +kernel) (by decide +kernel) (by decide +kernel) rfl g1141 <|
  (fun lv hl => q_if_le (off := 4) (tgt := 156) (zd (i := .ifCond .le (4)) (n := 3) (by decide +kernel)) (by decide) (fun h => (kt h) lv hl) (fun h => (kf h) lv hl))
theorem w_X9_tellLaw_155 {Q : qQ} {I : qMI} {L : qML} {R : qMR} {a1 : Int32} {a2 : Int32} {a3 : Int32} (hQ : Q none 336 I L R) : wkB l G (d + 1) n_X9_tellLaw Q 155 [.ref 292, .int a1, .int a2, .int a3] [] I L R :=
  (fun lv hl => q_vret (zd (i := .return_) (n := 1) (by decide +kernel)) rfl (Nat.le_refl _) (Nat.le_refl _) hQ)
theorem w_X9_tellLaw_156 {Q : qQ} {I : qMI} {L : qML} {R : qMR} (hR : wkR R) {a1 : Int32} {a2 : Int32} {a3 : Int32} (h1 : vp_in ((5 * (I 292 19)) + a1) 10) (h2 : vp_in ((5 * ((qUp I 311 ((5 * (I 292 19)) + a1).toNatClampNeg a2) 292 19)) + a1) 10) (hQ : Q none 336 (qUp (qUp I 311 ((5 * (I 292 19)) + a1).toNatClampNeg a2) 312 ((5 * ((qUp I 311 ((5 * (I 292 19)) + a1).toNatClampNeg a2) 292 19)) + a1).toNatClampNeg ((qUp I 311 ((5 * (I 292 19)) + a1).toNatClampNeg a2) 292 34)) L R) : wkB l G (d + 1) n_X9_tellLaw Q 156 [.ref 292, .int a1, .int a2, .int a3] [] I L R :=
  bb_aload_n (n := 0) (i := 0) (zd (i := .aload_n 0) (n := 1) (by decide +kernel)) rfl rfl <|
  bb_getr (k := 292) (ci := 9) (j := 32) (idx := 73) (a := 311) (zd (i := .getfield 73) (n := 3) (by decide +kernel)) (by decide +kernel) (by decide +kernel) (by decide +kernel) (by decide +kernel) rfl g1160 (hR 32 (by decide)) <|
  bb_lift (fun _ => q_iconst (n := 5) (zd (i := .iconst (5)) (n := 1) (by decide +kernel)) rfl) <|
  bb_aload_n (n := 0) (i := 0) (zd (i := .aload_n 0) (n := 1) (by decide +kernel)) rfl rfl <|
  bb_geti (k := 292) (ci := 9) (j := 19) (idx := 233) (zd (i := .getfield 233) (n := 3) (by decide +kernel)) (by decide +kernel) (by decide +kernel) (by decide +kernel) (by decide +kernel) rfl g1147 <|
  bb_lift (fun _ => q_imul (zd (i := .imul) (n := 1) (by decide +kernel))) <|
  bb_iload_n (n := 1) (i := 1) (zd (i := .iload_n 1) (n := 1) (by decide +kernel)) rfl rfl <|
  bb_lift (fun _ => q_iadd (zd (i := .iadd) (n := 1) (by decide +kernel))) <|
  bb_iload_n (n := 2) (i := 2) (zd (i := .iload_n 2) (n := 1) (by decide +kernel)) rfl rfl <|
  bb_lift (fun _ => q_iast (k := 311) (zd (i := .iastore) (n := 1) (by decide +kernel)) (by decide +kernel) (by decide +kernel) h1) <|
  bb_aload_n (n := 0) (i := 0) (zd (i := .aload_n 0) (n := 1) (by decide +kernel)) rfl rfl <|
  bb_getr (k := 292) (ci := 9) (j := 33) (idx := 76) (a := 312) (zd (i := .getfield 76) (n := 3) (by decide +kernel)) (by decide +kernel) (by decide +kernel) (by decide +kernel) (by decide +kernel) rfl g1161 (hR 33 (by decide)) <|
  bb_lift (fun _ => q_iconst (n := 5) (zd (i := .iconst (5)) (n := 1) (by decide +kernel)) rfl) <|
  bb_aload_n (n := 0) (i := 0) (zd (i := .aload_n 0) (n := 1) (by decide +kernel)) rfl rfl <|
  bb_geti (k := 292) (ci := 9) (j := 19) (idx := 233) (zd (i := .getfield 233) (n := 3) (by decide +kernel)) (by decide +kernel) (by decide +kernel) (by decide +kernel) (by decide +kernel) rfl g1147 <|
  bb_lift (fun _ => q_imul (zd (i := .imul) (n := 1) (by decide +kernel))) <|
  bb_iload_n (n := 1) (i := 1) (zd (i := .iload_n 1) (n := 1) (by decide +kernel)) rfl rfl <|
  bb_lift (fun _ => q_iadd (zd (i := .iadd) (n := 1) (by decide +kernel))) <|
  bb_aload_n (n := 0) (i := 0) (zd (i := .aload_n 0) (n := 1) (by decide +kernel)) rfl rfl <|
  bb_geti (k := 292) (ci := 9) (j := 34) (idx := 239) (zd (i := .getfield 239) (n := 3) (by decide +kernel)) (by decide +kernel) (by decide +kernel) (by decide +kernel) (by decide +kernel) rfl g1162 <|
  bb_lift (fun _ => q_iast (k := 312) (zd (i := .iastore) (n := 1) (by decide +kernel)) (by decide +kernel) (by decide +kernel) h2) <|
  (fun lv hl => q_vret (zd (i := .return_) (n := 1) (by decide +kernel)) rfl (Nat.le_refl _) (Nat.le_refl _) hQ)
end
