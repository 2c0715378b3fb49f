section
variable {l : Launch} {G : qG} {d : Nat}
def n_X9_feed : qMn := (yX9_feed, cX9_feed, 6, (some Jvm.ClassFile.FieldType.int), 0, 0)
theorem to_X9_feed : qTo n_X9_feed 5 := ⟨g1327, g110, ⟨by decide, by decide, by decide +kernel⟩, by decide⟩
def n_X9_put : qMn := (yX9_put, cX9_put, 3, none, 0, 0)
theorem to_X9_put : qTo n_X9_put 1 := ⟨g1331, g110, ⟨by decide, by decide, by decide +kernel⟩, by decide⟩
def n_X9_back : qMn := (yX9_back, cX9_back, 2, (some Jvm.ClassFile.FieldType.int), 0, 0)
theorem to_X9_back : qTo n_X9_back 1 := ⟨g1335, g110, ⟨by decide, by decide, by decide +kernel⟩, by decide⟩
def n_X9_byteAt : qMn := (yX9_byteAt, cX9_byteAt, 2, (some Jvm.ClassFile.FieldType.int), 0, 0)
theorem to_X9_byteAt : qTo n_X9_byteAt 1 := ⟨g1347, g110, ⟨by decide, by decide, by decide +kernel⟩, by decide⟩
def n_X9_isDigit : qMn := (yX9_isDigit, cX9_isDigit, 1, (some Jvm.ClassFile.FieldType.boolean), 0, 0)
theorem to_X9_isDigit : qTo n_X9_isDigit 1 := ⟨g1357, g110, ⟨by decide, by decide, by decide +kernel⟩, by decide⟩
def n_X9_isLetter : qMn := (yX9_isLetter, cX9_isLetter, 1, (some Jvm.ClassFile.FieldType.boolean), 0, 0)
theorem to_X9_isLetter : qTo n_X9_isLetter 1 := ⟨g1354, g110, ⟨by decide, by decide, by decide +kernel⟩, by decide⟩
def n_X9_appends : qMn := (yX9_appends, cX9_appends, 3, (some Jvm.ClassFile.FieldType.long), 0, 0)
theorem to_X9_appends : qTo n_X9_appends 2 := ⟨g1119, g110, ⟨by decide, by decide, by decide +kernel⟩, by decide⟩
def n_X9_token : qMn := (yX9_token, cX9_token, 6, none, 0, 0)
theorem to_X9_token : qTo n_X9_token 4 := ⟨g1351, g110, ⟨by decide, by decide, by decide +kernel⟩, by decide⟩
def n_X9_sign : qMn := (yX9_sign, cX9_sign, 5, (some Jvm.ClassFile.FieldType.int), 0, 0)
theorem to_X9_sign : qTo n_X9_sign 3 := ⟨g1361, g110, ⟨by decide, by decide, by decide +kernel⟩, by decide⟩
theorem w_X9_feed_0 {Q : qQ} {I : qMI} {L : qML} {R : qMR} {a1 : Int32} {a2 : Int32} {a3 : Int32} {a4 : Int32} {a5 : Int32} (kt : ((I 292 2) + 20) ≤ 2000 → wkB l G (d + 1) n_X9_feed Q 15 [.ref 292, .int a1, .int a2, .int a3, .int a4, .int a5] [] I L R) (kf : ¬ ((I 292 2) + 20) ≤ 2000 → wkB l G (d + 1) n_X9_feed Q 13 [.ref 292, .int a1, .int a2, .int a3, .int a4, .int a5] [] I L R) : wkB l G (d + 1) n_X9_feed Q 0 [.ref 292, .int a1, .int a2, .int a3, .int a4, .int a5] [] I L R :=
  bb_aload_n (n := 0) (i := 0) (zd (i := .aload_n 0) (n := 1) (by decide +kernel)) rfl rfl <|
  bb_geti (k := 292) (ci := 9) (j := 2) (idx := 167) (zd (i := .getfield 167) (n := 3) (by decide +kernel)) (by decide +kernel) (by decide +kernel) (by decide +kernel) (by decide +kernel) rfl g1130 <|
  bb_lift (fun _ => q_bipush (n := 20) (zd (i := .bipush (20)) (n := 2) (by decide +kernel)) rfl) <|
  bb_lift (fun _ => q_iadd (zd (i := .iadd) (n := 1) (by decide +kernel))) <|
  bb_lift (fun _ => q_sipush (n := 2000) (zd (i := .sipush (2000)) (n := 3) (by decide +kernel)) rfl) <|
  (fun lv hl => q_icmp_le (off := 5) (tgt := 15) (zd (i := .if_icmp .le (5)) (n := 3) (by decide +kernel)) (by decide) (fun h => (kt h) lv hl) (fun h => (kf h) lv hl))
theorem w_X9_feed_13 {Q : qQ} {I : qMI} {L : qML} {R : qMR} {a1 : Int32} {a2 : Int32} {a3 : Int32} {a4 : Int32} {a5 : Int32} (hQ : Q (some (.int (-1))) 336 I L R) : wkB l G (d + 1) n_X9_feed Q 13 [.ref 292, .int a1, .int a2, .int a3, .int a4, .int a5] [] I L R :=
  bb_lift (fun _ => q_iconst (n := -1) (zd (i := .iconst (-1)) (n := 1) (by decide +kernel)) rfl) <|
  (fun lv hl => q_iret (zd (i := .ireturn) (n := 1) (by decide +kernel)) rfl rfl (Nat.le_refl _) (Nat.le_refl _) hQ)
theorem w_X9_feed_15 {Q : qQ} {I : qMI} {L : qML} {R : qMR} {a1 : Int32} {a2 : Int32} {a3 : Int32} {a4 : Int32} {a5 : Int32} {P : qMI → qML → Prop} (hc : wkV l G d n_X9_put [.ref 292, .int a1] I L R P) (kk : ∀ I' L', P I' L' → wkB l G (d + 1) n_X9_feed Q 20 [.ref 292, .int a1, .int a2, .int a3, .int a4, .int a5] [] I' L' R) : wkB l G (d + 1) n_X9_feed Q 15 [.ref 292, .int a1, .int a2, .int a3, .int a4, .int a5] [] I L R :=
  bb_aload_n (n := 0) (i := 0) (zd (i := .aload_n 0) (n := 1) (by decide +kernel)) rfl rfl <|
  bb_iload_n (n := 1) (i := 1) (zd (i := .iload_n 1) (n := 1) (by decide +kernel)) rfl rfl <|
  bb_callVV (idx := 170) (k := 292) (ci := 9) (N := n_X9_put) (As := [.int a1]) (st := []) (zd (i := .invokevirtual 170) (n := 3) (by decide +kernel)) to_X9_put g1328 g1330 g44 (Nat.le_of_ble_eq_true rfl) (by decide +kernel) (by decide +kernel) (by decide +kernel) rfl rfl rfl hc kk
theorem w_X9_feed_20 {Q : qQ} {I : qMI} {L : qML} {R : qMR} {a1 : Int32} {a2 : Int32} {a3 : Int32} {a4 : Int32} {a5 : Int32} {P : qMI → qML → Prop} (hc : wkV l G d n_X9_put [.ref 292, .int a2] I L R P) (kk : ∀ I' L', P I' L' → wkB l G (d + 1) n_X9_feed Q 25 [.ref 292, .int a1, .int a2, .int a3, .int a4, .int a5] [] I' L' R) : wkB l G (d + 1) n_X9_feed Q 20 [.ref 292, .int a1, .int a2, .int a3, .int a4, .int a5] [] I L R :=
  bb_aload_n (n := 0) (i := 0) (zd (i := .aload_n 0) (n := 1) (by decide +kernel)) rfl rfl <|
  bb_iload_n (n := 2) (i := 2) (zd (i := .iload_n 2) (n := 1) (by decide +kernel)) rfl rfl <|
  bb_callVV (idx := 170) (k := 292) (ci := 9) (N := n_X9_put) (As := [.int a2]) (st := []) (zd (i := .invokevirtual 170) (n := 3) (by decide +kernel)) to_X9_put g1328 g1330 g44 (Nat.le_of_ble_eq_true rfl) (by decide +kernel) (by decide +kernel) (by decide +kernel) rfl rfl rfl hc kk
theorem w_X9_feed_25 {Q : qQ} {I : qMI} {L : qML} {R : qMR} {a1 : Int32} {a2 : Int32} {a3 : Int32} {a4 : Int32} {a5 : Int32} {P : qMI → qML → Prop} (hc : wkV l G d n_X9_put [.ref 292, .int a3] I L R P) (kk : ∀ I' L', P I' L' → wkB l G (d + 1) n_X9_feed Q 30 [.ref 292, .int a1, .int a2, .int a3, .int a4, .int a5] [] I' L' R) : wkB l G (d + 1) n_X9_feed Q 25 [.ref 292, .int a1, .int a2, .int a3, .int a4, .int a5] [] I L R :=
  bb_aload_n (n := 0) (i := 0) (zd (i := .aload_n 0) (n := 1) (by decide +kernel)) rfl rfl <|
  bb_iload_n (n := 3) (i := 3) (zd (i := .iload_n 3) (n := 1) (by decide +kernel)) rfl rfl <|
  bb_callVV (idx := 170) (k := 292) (ci := 9) (N := n_X9_put) (As := [.int a3]) (st := []) (zd (i := .invokevirtual 170) (n := 3) (by decide +kernel)) to_X9_put g1328 g1330 g44 (Nat.le_of_ble_eq_true rfl) (by decide +kernel) (by decide +kernel) (by decide +kernel) rfl rfl rfl hc kk
theorem w_X9_feed_30 {Q : qQ} {I : qMI} {L : qML} {R : qMR} {a1 : Int32} {a2 : Int32} {a3 : Int32} {a4 : Int32} {a5 : Int32} {P : qMI → qML → Prop} (hc : wkV l G d n_X9_put [.ref 292, .int a4] I L R P) (kk : ∀ I' L', P I' L' → wkB l G (d + 1) n_X9_feed Q 36 [.ref 292, .int a1, .int a2, .int a3, .int a4, .int a5] [] I' L' R) : wkB l G (d + 1) n_X9_feed Q 30 [.ref 292, .int a1, .int a2, .int a3, .int a4, .int a5] [] I L R :=
  bb_aload_n (n := 0) (i := 0) (zd (i := .aload_n 0) (n := 1) (by decide +kernel)) rfl rfl <|
  bb_iload (i := 4) (zd (i := .iload 4) (n := 2) (by decide +kernel)) rfl <|
  bb_callVV (idx := 170) (k := 292) (ci := 9) (N := n_X9_put) (As := [.int a4]) (st := []) (zd (i := .invokevirtual 170) (n := 3) (by decide +kernel)) to_X9_put g1328 g1330 g44 (Nat.le_of_ble_eq_true rfl) (by decide +kernel) (by decide +kernel) (by decide +kernel) rfl rfl rfl hc kk
theorem w_X9_feed_36 {Q : qQ} {I : qMI} {L : qML} {R : qMR} {a1 : Int32} {a2 : Int32} {a3 : Int32} {a4 : Int32} {a5 : Int32} {P : qMI → qML → Prop} (hc : wkV l G d n_X9_put [.ref 292, .int a5] I L R P) (kk : ∀ I' L', P I' L' → wkB l G (d + 1) n_X9_feed Q 42 [.ref 292, .int a1, .int a2, .int a3, .int a4, .int a5] [] I' L' R) : wkB l G (d + 1) n_X9_feed Q 36 [.ref 292, .int a1, .int a2, .int a3, .int a4, .int a5] [] I L R :=
  bb_aload_n (n := 0) (i := 0) (zd (i := .aload_n 0) (n := 1) (by decide +kernel)) rfl rfl <|
  bb_iload (i := 5) (zd (i := .iload 5) (n := 2) (by decide +kernel)) rfl <|
  bb_callVV (idx := 170) (k := 292) (ci := 9) (N := n_X9_put) (As := [.int a5]) (st := []) (zd (i := .invokevirtual 170) (n := 3) (by decide +kernel)) to_X9_put g1328 g1330 g44 (Nat.le_of_ble_eq_true rfl) (by decide +kernel) (by decide +kernel) (by decide +kernel) rfl rfl rfl hc kk
theorem w_X9_feed_42 {Q : qQ} {I : qMI} {L : qML} {R : qMR} {a1 : Int32} {a2 : Int32} {a3 : Int32} {a4 : Int32} {a5 : Int32} (hQ : Q (some (.int (I 292 2))) 336 I L R) : wkB l G (d + 1) n_X9_feed Q 42 [.ref 292, .int a1, .int a2, .int a3, .int a4, .int a5] [] I L R :=
  bb_aload_n (n := 0) (i := 0) (zd (i := .aload_n 0) (n := 1) (by decide +kernel)) rfl rfl <|
  bb_geti (k := 292) (ci := 9) (j := 2) (idx := 167) (zd (i := .getfield 167) (n := 3) (by decide +kernel)) (by decide +kernel) (by decide +kernel) (by decide +kernel) (by decide +kernel) rfl g1130 <|
  (fun lv hl => q_iret (zd (i := .ireturn) (n := 1) (by decide +kernel)) rfl rfl (Nat.le_refl _) (Nat.le_refl _) hQ)
theorem w_X9_put_0 {Q : qQ} {I : qMI} {L : qML} {R : qMR} {a1 : Int32} (k : wkB l G (d + 1) n_X9_put Q 3 [.ref 292, .int a1, .int 24] [] I L R) : wkB l G (d + 1) n_X9_put Q 0 [.ref 292, .int a1, wkU] [] I L R :=
  bb_lift (fun _ => q_bipush (n := 24) (zd (i := .bipush (24)) (n := 2) (by decide +kernel)) rfl) <|
  bb_istore_n (n := 2) (i := 2) (zd (i := .istore_n 2) (n := 1) (by decide +kernel)) rfl (by decide +kernel) (wkNl_i rfl) <|
  k
theorem w_X9_put_3 {Q : qQ} {I : qMI} {L : qML} {R : qMR} {a1 : Int32} {a2 : Int32} (kt : a2 < 0 → wkB l G (d + 1) n_X9_put Q 36 [.ref 292, .int a1, .int a2] [] I L R) (kf : ¬ a2 < 0 → wkB l G (d + 1) n_X9_put Q 7 [.ref 292, .int a1, .int a2] [] I L R) : wkB l G (d + 1) n_X9_put Q 3 [.ref 292, .int a1, .int a2] [] I L R :=
  bb_iload_n (n := 2) (i := 2) (zd (i := .iload_n 2) (n := 1) (by decide +kernel)) rfl rfl <|
  (fun lv hl => q_if_lt (off := 32) (tgt := 36) (zd (i := .ifCond .lt (32)) (n := 3) (by decide +kernel)) (by decide) (fun h => (kt h) lv hl) (fun h => (kf h) lv hl))
theorem w_X9_put_7 {Q : qQ} {I : qMI} {L : qML} {R : qMR} (hR : wkR R) {a1 : Int32} {a2 : Int32} (h1 : vp_in (I 292 2) 2000) (k : wkB l G (d + 1) n_X9_put Q 3 [.ref 292, .int a1, .int (a2 + (-8))] [] (qUp (qUp I 293 (I 292 2).toNatClampNeg (vp_nar .byte ((a1 >>> (a2 &&& 31)).toInt8.toInt32))) 292 2 (((qUp I 293 (I 292 2).toNatClampNeg (vp_nar .byte ((a1 >>> (a2 &&& 31)).toInt8.toInt32))) 292 2) + 1)) L R) : wkB l G (d + 1) n_X9_put Q 7 [.ref 292, .int a1, .int a2] [] I L R :=
  bb_aload_n (n := 0) (i := 0) (zd (i := .aload_n 0) (n := 1) (by decide +kernel)) rfl rfl <|
  bb_getr (k := 292) (ci := 9) (j := 1) (idx := 13) (a := 293) (zd (i := .getfield 13) (n := 3) (by decide +kernel)) (by decide +kernel) (by decide +kernel) (by decide +kernel) (by decide +kernel) rfl g1129 (hR 1 (by decide)) <|
  bb_aload_n (n := 0) (i := 0) (zd (i := .aload_n 0) (n := 1) (by decide +kernel)) rfl rfl <|
  bb_geti (k := 292) (ci := 9) (j := 2) (idx := 167) (zd (i := .getfield 167) (n := 3) (by decide +kernel)) (by decide +kernel) (by decide +kernel) (by decide +kernel) (by decide +kernel) rfl g1130 <|
  bb_iload_n (n := 1) (i := 1) (zd (i := .iload_n 1) (n := 1) (by decide +kernel)) rfl rfl <|
  bb_iload_n (n := 2) (i := 2) (zd (i := .iload_n 2) (n := 1) (by decide +kernel)) rfl rfl <|
  bb_lift (fun _ => q_ishr (zd (i := .ishr) (n := 1) (by decide +kernel))) <|
  bb_lift (fun _ => q_i2b (zd (i := .i2b) (n := 1) (by decide +kernel))) <|
  bb_lift (fun _ => q_bast (k := 293) (zd (i := .bastore) (n := 1) (by decide +kernel)) (by decide +kernel) (by decide +kernel) h1) <|
  bb_aload_n (n := 0) (i := 0) (zd (i := .aload_n 0) (n := 1) (by decide +kernel)) rfl rfl <|
  bb_lift (fun _ => q_dup (zd (i := .dup) (n := 1) (by decide +kernel)) rfl) <|
  bb_geti (k := 292) (ci := 9) (j := 2) (idx := 167) (zd (i := .getfield 167) (n := 3) (by decide +kernel)) (by decide +kernel) (by decide +kernel) (by decide +kernel) (by decide +kernel) rfl g1130 <|
  bb_lift (fun _ => q_iconst (n := 1) (zd (i := .iconst (1)) (n := 1) (by decide +kernel)) rfl) <|
  bb_lift (fun _ => q_iadd (zd (i := .iadd) (n := 1) (by decide +kernel))) <|
  bb_puti (k := 292) (ci := 9) (j := 2) (idx := 167) (zd (i := .putfield 167) (n := 3) (by decide +kernel)) (by decide +kernel) (by decide +kernel) (by decide +kernel) (by decide +kernel) g1130 rfl rfl <|
  bb_iinc (i := 2) (n := -8) (zd (i := .iinc 2 (-8)) (n := 3) (by decide +kernel)) rfl rfl (by decide +kernel) (wkNl_i rfl) <|
  bb_lift (fun _ => q_goto (off := -30) (tgt := 3) (zd (i := .goto (-30)) (n := 3) (by decide +kernel)) (by decide)) k
theorem w_X9_put_36 {Q : qQ} {I : qMI} {L : qML} {R : qMR} {a1 : Int32} {a2 : Int32} (hQ : Q none 336 I L R) : wkB l G (d + 1) n_X9_put Q 36 [.ref 292, .int a1, .int a2] [] I L R :=
  (fun lv hl => q_vret (zd (i := .return_) (n := 1) (by decide +kernel)) rfl (Nat.le_refl _) (Nat.le_refl _) hQ)
theorem w_X9_back_0 {Q : qQ} {I : qMI} {L : qML} {R : qMR} {a1 : Int32} (kt : a1 < 0 → wkB l G (d + 1) n_X9_back Q 12 [.ref 292, .int a1] [] I L R) (kf : ¬ a1 < 0 → wkB l G (d + 1) n_X9_back Q 4 [.ref 292, .int a1] [] I L R) : wkB l G (d + 1) n_X9_back Q 0 [.ref 292, .int a1] [] I L R :=
  bb_iload_n (n := 1) (i := 1) (zd (i := .iload_n 1) (n := 1) (by decide +kernel)) rfl rfl <|
  (fun lv hl => q_if_lt (off := 11) (tgt := 12) (zd (i := .ifCond .lt (11)) (n := 3) (by decide +kernel)) (by decide) (fun h => (kt h) lv hl) (fun h => (kf h) lv hl))
theorem w_X9_back_4 {Q : qQ} {I : qMI} {L : qML} {R : qMR} {a1 : Int32} (kt : a1 ≤ (I 292 2) → wkB l G (d + 1) n_X9_back Q 14 [.ref 292, .int a1] [] I L R) (kf : ¬ a1 ≤ (I 292 2) → wkB l G (d + 1) n_X9_back Q 12 [.ref 292, .int a1] [] I L R) : wkB l G (d + 1) n_X9_back Q 4 [.ref 292, .int a1] [] I L R :=
  bb_iload_n (n := 1) (i := 1) (zd (i := .iload_n 1) (n := 1) (by decide +kernel)) rfl rfl <|
  bb_aload_n (n := 0) (i := 0) (zd (i := .aload_n 0) (n := 1) (by decide +kernel)) rfl rfl <|
  bb_geti (k := 292) (ci := 9) (j := 2) (idx := 167) (zd (i := .getfield 167) (n := 3) (by decide +kernel)) (by decide +kernel) (by decide +kernel) (by decide +kernel) (by decide +kernel) rfl g1130 <|
  (fun lv hl => q_icmp_le (off := 5) (tgt := 14) (zd (i := .if_icmp .le (5)) (n := 3) (by decide +kernel)) (by decide) (fun h => (kt h) lv hl) (fun h => (kf h) lv hl))
theorem w_X9_back_12 {Q : qQ} {I : qMI} {L : qML} {R : qMR} {a1 : Int32} (hQ : Q (some (.int (-1))) 336 I L R) : wkB l G (d + 1) n_X9_back Q 12 [.ref 292, .int a1] [] I L R :=
  bb_lift (fun _ => q_iconst (n := -1) (zd (i := .iconst (-1)) (n := 1) (by decide +kernel)) rfl) <|
  (fun lv hl => q_iret (zd (i := .ireturn) (n := 1) (by decide +kernel)) rfl rfl (Nat.le_refl _) (Nat.le_refl _) hQ)
theorem w_X9_back_14 {Q : qQ} {I : qMI} {L : qML} {R : qMR} {a1 : Int32} (hQ : Q (some (.int ((qUp I 292 2 ((I 292 2) - a1)) 292 2))) 336 (qUp I 292 2 ((I 292 2) - a1)) L R) : wkB l G (d + 1) n_X9_back Q 14 [.ref 292, .int a1] [] I L R :=
  bb_aload_n (n := 0) (i := 0) (zd (i := .aload_n 0) (n := 1) (by decide +kernel)) rfl rfl <|
  bb_lift (fun _ => q_dup (zd (i := .dup) (n := 1) (by decide +kernel)) rfl) <|
  bb_geti (k := 292) (ci := 9) (j := 2) (idx := 167) (zd (i := .getfield 167) (n := 3) (by decide +kernel)) (by decide +kernel) (by decide +kernel) (by decide +kernel) (by decide +kernel) rfl g1130 <|
  bb_iload_n (n := 1) (i := 1) (zd (i := .iload_n 1) (n := 1) (by decide +kernel)) rfl rfl <|
  bb_lift (fun _ => q_isub (zd (i := .isub) (n := 1) (by decide +kernel))) <|
  bb_puti (k := 292) (ci := 9) (j := 2) (idx := 167) (zd (i := .putfield 167) (n := 3) (by decide +kernel)) (by decide +kernel) (by decide +kernel) (by decide +kernel) (by decide +kernel) g1130 rfl rfl <|
  bb_aload_n (n := 0) (i := 0) (zd (i := .aload_n 0) (n := 1) (by decide +kernel)) rfl rfl <|
  bb_geti (k := 292) (ci := 9) (j := 2) (idx := 167) (zd (i := .getfield 167) (n := 3) (by decide +kernel)) (by decide +kernel) (by decide +kernel) (by decide +kernel) (by decide +kernel) rfl g1130 <|
  (fun lv hl => q_iret (zd (i := .ireturn) (n := 1) (by decide +kernel)) rfl rfl (Nat.le_refl _) (Nat.le_refl _) hQ)
theorem w_X9_byteAt_0 {Q : qQ} {I : qMI} {L : qML} {R : qMR} {a1 : Int32} (kt : (I 292 4) ≤ a1 → wkB l G (d + 1) n_X9_byteAt Q 21 [.ref 292, .int a1] [] I L R) (kf : ¬ (I 292 4) ≤ a1 → wkB l G (d + 1) n_X9_byteAt Q 8 [.ref 292, .int a1] [] I L R) : wkB l G (d + 1) n_X9_byteAt Q 0 [.ref 292, .int a1] [] I L R :=
  bb_iload_n (n := 1) (i := 1) (zd (i := .iload_n 1) (n := 1) (by decide +kernel)) rfl rfl <|
  bb_aload_n (n := 0) (i := 0) (zd (i := .aload_n 0) (n := 1) (by decide +kernel)) rfl rfl <|
  bb_geti (k := 292) (ci := 9) (j := 4) (idx := 173) (zd (i := .getfield 173) (n := 3) (by decide +kernel)) (by decide +kernel) (by decide +kernel) (by decide +kernel) (by decide +kernel) rfl g1132 <|
  (fun lv hl => q_icmp_ge (off := 16) (tgt := 21) (zd (i := .if_icmp .ge (16)) (n := 3) (by decide +kernel)) (by decide) (fun h => (kt h) lv hl) (fun h => (kf h) lv hl))
theorem w_X9_byteAt_8 {Q : qQ} {I : qMI} {L : qML} {R : qMR} (hR : wkR R) {a1 : Int32} (h1 : vp_in a1 2000) (k : wkB l G (d + 1) n_X9_byteAt Q 22 [.ref 292, .int a1] [.int ((I 294 a1.toNatClampNeg) &&& 255)] I L R) : wkB l G (d + 1) n_X9_byteAt Q 8 [.ref 292, .int a1] [] I L R :=
  bb_aload_n (n := 0) (i := 0) (zd (i := .aload_n 0) (n := 1) (by decide +kernel)) rfl rfl <|
  bb_getr (k := 292) (ci := 9) (j := 3) (idx := 17) (a := 294) (zd (i := .getfield 17) (n := 3) (by decide +kernel)) (by decide +kernel) (by decide +kernel) (by decide +kernel) (by decide +kernel) rfl g1131 (hR 3 (by decide)) <|
  bb_iload_n (n := 1) (i := 1) (zd (i := .iload_n 1) (n := 1) (by decide +kernel)) rfl rfl <|
  bb_lift (fun _ => q_bald (k := 294) (zd (i := .baload) (n := 1) (by decide +kernel)) (by decide +kernel) (by decide +kernel) h1) <|
  bb_lift (fun _ => q_sipush (n := 255) (zd (i := .sipush (255)) (n := 3) (by decide +kernel)) rfl) <|
  bb_lift (fun _ => q_iand (zd (i := .iand) (n := 1) (by decide +kernel))) <|
  bb_lift (fun _ => q_goto (off := 4) (tgt := 22) (zd (i := .goto (4)) (n := 3) (by decide +kernel)) (by decide)) k
theorem w_X9_byteAt_21 {Q : qQ} {I : qMI} {L : qML} {R : qMR} {a1 : Int32} (k : wkB l G (d + 1) n_X9_byteAt Q 22 [.ref 292, .int a1] [.int 0] I L R) : wkB l G (d + 1) n_X9_byteAt Q 21 [.ref 292, .int a1] [] I L R :=
  bb_lift (fun _ => q_iconst (n := 0) (zd (i := .iconst (0)) (n := 1) (by decide +kernel)) rfl) <|
  k
theorem w_X9_byteAt_22 {Q : qQ} {I : qMI} {L : qML} {R : qMR} {a1 : Int32} {s0 : Int32} (hQ : Q (some (.int s0)) 336 I L R) : wkB l G (d + 1) n_X9_byteAt Q 22 [.ref 292, .int a1] [.int s0] I L R :=
  (fun lv hl => q_iret (zd (i := .ireturn) (n := 1) (by decide +kernel)) rfl rfl (Nat.le_refl _) (Nat.le_refl _) hQ)
theorem w_X9_isDigit_0 {Q : qQ} {I : qMI} {L : qML} {R : qMR} {a0 : Int32} (kt : a0 < 48 → wkB l G (d + 1) n_X9_isDigit Q 16 [.int a0] [] I L R) (kf : ¬ a0 < 48 → wkB l G (d + 1) n_X9_isDigit Q 6 [.int a0] [] I L R) : wkB l G (d + 1) n_X9_isDigit Q 0 [.int a0] [] I L R :=
  bb_iload_n (n := 0) (i := 0) (zd (i := .iload_n 0) (n := 1) (by decide +kernel)) rfl rfl <|
  bb_lift (fun _ => q_bipush (n := 48) (zd (i := .bipush (48)) (n := 2) (by decide +kernel)) rfl) <|
  (fun lv hl => q_icmp_lt (off := 13) (tgt := 16) (zd (i := .if_icmp .lt (13)) (n := 3) (by decide +kernel)) (by decide) (fun h => (kt h) lv hl) (fun h => (kf h) lv hl))
theorem w_X9_isDigit_6 {Q : qQ} {I : qMI} {L : qML} {R : qMR} {a0 : Int32} (kt : 57 < a0 → wkB l G (d + 1) n_X9_isDigit Q 16 [.int a0] [] I L R) (kf : ¬ 57 < a0 → wkB l G (d + 1) n_X9_isDigit Q 12 [.int a0] [] I L R) : wkB l G (d + 1) n_X9_isDigit Q 6 [.int a0] [] I L R :=
  bb_iload_n (n := 0) (i := 0) (zd (i := .iload_n 0) (n := 1) (by decide +kernel)) rfl rfl <|
  bb_lift (fun _ => q_bipush (n := 57) (zd (i := .bipush (57)) (n := 2) (by decide +kernel)) rfl) <|
  (fun lv hl => q_icmp_gt (off := 7) (tgt := 16) (zd (i := .if_icmp .gt (7)) (n := 3) (by decide +kernel)) (by decide) (fun h => (kt h) lv hl) (fun h => (kf h) lv hl))
theorem w_X9_isDigit_12 {Q : qQ} {I : qMI} {L : qML} {R : qMR} {a0 : Int32} (k : wkB l G (d + 1) n_X9_isDigit Q 17 [.int a0] [.int 1] I L R) : wkB l G (d + 1) n_X9_isDigit Q 12 [.int a0] [] I L R :=
  bb_lift (fun _ => q_iconst (n := 1) (zd (i := .iconst (1)) (n := 1) (by decide +kernel)) rfl) <|
  bb_lift (fun _ => q_goto (off := 4) (tgt := 17) (zd (i := .goto (4)) (n := 3) (by decide +kernel)) (by decide)) k
theorem w_X9_isDigit_16 {Q : qQ} {I : qMI} {L : qML} {R : qMR} {a0 : Int32} (k : wkB l G (d + 1) n_X9_isDigit Q 17 [.int a0] [.int 0] I L R) : wkB l G (d + 1) n_X9_isDigit Q 16 [.int a0] [] I L R :=
  bb_lift (fun _ => q_iconst (n := 0) (zd (i := .iconst (0)) (n := 1) (by decide +kernel)) rfl) <|
  k
theorem w_X9_isDigit_17 {Q : qQ} {I : qMI} {L : qML} {R : qMR} {a0 : Int32} {s0 : Int32} (hQ : Q (some (.int s0)) 336 I L R) (h1 : s0 = 0 ∨ s0 = 1) : wkB l G (d + 1) n_X9_isDigit Q 17 [.int a0] [.int s0] I L R :=
  (fun lv hl => q_iret (zd (i := .ireturn) (n := 1) (by decide +kernel)) rfl (by rcases h1 with e | e <;> rw [e] <;> rfl) (Nat.le_refl _) (Nat.le_refl _) hQ)
theorem w_X9_isLetter_0 {Q : qQ} {I : qMI} {L : qML} {R : qMR} {a0 : Int32} (kt : a0 < 97 → wkB l G (d + 1) n_X9_isLetter Q 16 [.int a0] [] I L R) (kf : ¬ a0 < 97 → wkB l G (d + 1) n_X9_isLetter Q 6 [.int a0] [] I L R) : wkB l G (d + 1) n_X9_isLetter Q 0 [.int a0] [] I L R :=
  bb_iload_n (n := 0) (i := 0) (zd (i := .iload_n 0) (n := 1) (by decide +kernel)) rfl rfl <|
  bb_lift (fun _ => q_bipush (n := 97) (zd (i := .bipush (97)) (n := 2) (by decide +kernel)) rfl) <|
  (fun lv hl => q_icmp_lt (off := 13) (tgt := 16) (zd (i := .if_icmp .lt (13)) (n := 3) (by decide +kernel)) (by decide) (fun h => (kt h) lv hl) (fun h => (kf h) lv hl))
theorem w_X9_isLetter_6 {Q : qQ} {I : qMI} {L : qML} {R : qMR} {a0 : Int32} (kt : 122 < a0 → wkB l G (d + 1) n_X9_isLetter Q 16 [.int a0] [] I L R) (kf : ¬ 122 < a0 → wkB l G (d + 1) n_X9_isLetter Q 12 [.int a0] [] I L R) : wkB l G (d + 1) n_X9_isLetter Q 6 [.int a0] [] I L R :=
  bb_iload_n (n := 0) (i := 0) (zd (i := .iload_n 0) (n := 1) (by decide +kernel)) rfl rfl <|
  bb_lift (fun _ => q_bipush (n := 122) (zd (i := .bipush (122)) (n := 2) (by decide +kernel)) rfl) <|
  (fun lv hl => q_icmp_gt (off := 7) (tgt := 16) (zd (i := .if_icmp .gt (7)) (n := 3) (by decide +kernel)) (by decide) (fun h => (kt h) lv hl) (fun h => (kf h) lv hl))
theorem w_X9_isLetter_12 {Q : qQ} {I : qMI} {L : qML} {R : qMR} {a0 : Int32} (k : wkB l G (d + 1) n_X9_isLetter Q 17 [.int a0] [.int 1] I L R) : wkB l G (d + 1) n_X9_isLetter Q 12 [.int a0] [] I L R :=
  bb_lift (fun _ => q_iconst (n := 1) (zd (i := .iconst (1)) (n := 1) (by decide +kernel)) rfl) <|
  bb_lift (fun _ => q_goto (off := 4) (tgt := 17) (zd (i := .goto (4)) (n := 3) (by decide +kernel)) (by decide)) k
theorem w_X9_isLetter_16 {Q : qQ} {I : qMI} {L : qML} {R : qMR} {a0 : Int32} (k : wkB l G (d + 1) n_X9_isLetter Q 17 [.int a0] [.int 0] I L R) : wkB l G (d + 1) n_X9_isLetter Q 16 [.int a0] [] I L R :=
  bb_lift (fun _ => q_iconst (n := 0) (zd (i := .iconst (0)) (n := 1) (by decide +kernel)) rfl) <|
  k
theorem w_X9_isLetter_17 {Q : qQ} {I : qMI} {L : qML} {R : qMR} {a0 : Int32} {s0 : Int32} (hQ : Q (some (.int s0)) 336 I L R) (h1 : s0 = 0 ∨ s0 = 1) : wkB l G (d + 1) n_X9_isLetter Q 17 [.int a0] [.int s0] I L R :=
  (fun lv hl => q_iret (zd (i := .ireturn) (n := 1) (by decide +kernel)) rfl (by rcases h1 with e | e <;> rw [e] <;> rfl) (Nat.le_refl _) (Nat.le_refl _) hQ)
theorem w_X9_appends_0 {Q : qQ} {I : qMI} {L : qML} {R : qMR} {a0 : Int64} {a2 : Int32} (kt : ¬ a2 = 0 → wkB l G (d + 1) n_X9_appends Q 8 [.long a0, wkU, .int a2] [] I L R) (kf : a2 = 0 → wkB l G (d + 1) n_X9_appends Q 4 [.long a0, wkU, .int a2] [] I L R) : wkB l G (d + 1) n_X9_appends Q 0 [.long a0, wkU, .int a2] [] I L R :=
  bb_iload_n (n := 2) (i := 2) (zd (i := .iload_n 2) (n := 1) (by decide +kernel)) rfl rfl <|
  (fun lv hl => q_if_ne (off := 7) (tgt := 8) (zd (i := .ifCond .ne (7)) (n := 3) (by decide +kernel)) (by decide) (fun h => (kt h) lv hl) (fun h => (kf h) lv hl))
theorem w_X9_appends_8 {Q : qQ} {I : qMI} {L : qML} {R : qMR} {a0 : Int64} {a2 : Int32} (k : wkB l G (d + 1) n_X9_appends Q 21 [.long a0, wkU, .int a2] [.long ((27 * a0) + (((a2 - 97) + 1).toInt64))] I L R) : wkB l G (d + 1) n_X9_appends Q 8 [.long a0, wkU, .int a2] [] I L R :=
  bb_lift (fun _ => q_ldc2 (n := 176) (zd (i := .ldc2_w 176) (n := 3) (by decide +kernel)) g1120) <|
  bb_lload_n (n := 0) (i := 0) (zd (i := .lload_n 0) (n := 1) (by decide +kernel)) rfl rfl <|
  bb_lift (fun _ => q_lmul (zd (i := .lmul) (n := 1) (by decide +kernel))) <|
  bb_iload_n (n := 2) (i := 2) (zd (i := .iload_n 2) (n := 1) (by decide +kernel)) rfl rfl <|
  bb_lift (fun _ => q_bipush (n := 97) (zd (i := .bipush (97)) (n := 2) (by decide +kernel)) rfl) <|
  bb_lift (fun _ => q_isub (zd (i := .isub) (n := 1) (by decide +kernel))) <|
  bb_lift (fun _ => q_iconst (n := 1) (zd (i := .iconst (1)) (n := 1) (by decide +kernel)) rfl) <|
  bb_lift (fun _ => q_iadd (zd (i := .iadd) (n := 1) (by decide +kernel))) <|
  bb_lift (fun _ => q_i2l (zd (i := .i2l) (n := 1) (by decide +kernel))) <|
  bb_lift (fun _ => q_ladd (zd (i := .ladd) (n := 1) (by decide +kernel))) <|
  k
theorem w_X9_appends_21 {Q : qQ} {I : qMI} {L : qML} {R : qMR} {a0 : Int64} {a2 : Int32} {s0 : Int64} (hQ : Q (some (.long s0)) 336 I L R) : wkB l G (d + 1) n_X9_appends Q 21 [.long a0, wkU, .int a2] [.long s0] I L R :=
  (fun lv hl => q_lret (zd (i := .lreturn) (n := 1) (by decide +kernel)) rfl (Nat.le_refl _) (Nat.le_refl _) hQ)
theorem w_X9_token_0 {Q : qQ} {I : qMI} {L : qML} {R : qMR} (hR : wkR R) {a1 : Int32} {a2 : Int32} {a3 : Int32} {a4 : Int64} (h1 : vp_in (I 292 10) 403) (h2 : vp_in ((qUp I 295 (I 292 10).toNatClampNeg a1) 292 10) 403) (h3 : vp_in ((qUp (qUp I 295 (I 292 10).toNatClampNeg a1) 296 ((qUp I 295 (I 292 10).toNatClampNeg a1) 292 10).toNatClampNeg a2) 292 10) 403) (h4 : vp_in ((qUp (qUp (qUp I 295 (I 292 10).toNatClampNeg a1) 296 ((qUp I 295 (I 292 10).toNatClampNeg a1) 292 10).toNatClampNeg a2) 297 ((qUp (qUp I 295 (I 292 10).toNatClampNeg a1) 296 ((qUp I 295 (I 292 10).toNatClampNeg a1) 292 10).toNatClampNeg a2) 292 10).toNatClampNeg a3) 292 10) 403) (hQ : Q none 336 (qUp (qUp (qUp (qUp I 295 (I 292 10).toNatClampNeg a1) 296 ((qUp I 295 (I 292 10).toNatClampNeg a1) 292 10).toNatClampNeg a2) 297 ((qUp (qUp I 295 (I 292 10).toNatClampNeg a1) 296 ((qUp I 295 (I 292 10).toNatClampNeg a1) 292 10).toNatClampNeg a2) 292 10).toNatClampNeg a3) 292 10 (((qUp (qUp (qUp I 295 (I 292 10).toNatClampNeg a1) 296 ((qUp I 295 (I 292 10).toNatClampNeg a1) 292 10).toNatClampNeg a2) 297 ((qUp (qUp I 295 (I 292 10).toNatClampNeg a1) 296 ((qUp I 295 (I 292 10).toNatClampNeg a1) 292 10).toNatClampNeg a2) 292 10).toNatClampNeg a3) 292 10) + 1)) (qUpL L 298 ((qUp (qUp (qUp I 295 (I 292 10).toNatClampNeg a1) 296 ((qUp I 295 (I 292 10).toNatClampNeg a1) 292 10).toNatClampNeg a2) 297 ((qUp (qUp I 295 (I 292 10).toNatClampNeg a1) 296 ((qUp I 295 (I 292 10).toNatClampNeg a1) 292 10).toNatClampNeg a2) 292 10).toNatClampNeg a3) 292 10).toNatClampNeg a4) R) : wkB l G (d + 1) n_X9_token Q 0 [.ref 292, .int a1, .int a2, .int a3, .long a4, wkU] [] I L R :=
  bb_aload_n (n := 0) (i := 0) (zd (i := .aload_n 0) (n := 1) (by decide +kernel)) rfl rfl <|
  bb_getr (k := 292) (ci := 9) (j := 5) (idx := 20) (a := 295) (zd (i := .getfield 20) (n := 3) (by decide +kernel)) (by decide +kernel) (by decide +kernel) (by decide +kernel) (by decide +kernel) rfl g1133 (hR 5 (by decide)) <|
  bb_aload_n (n := 0) (i := 0) (zd (i := .aload_n 0) (n := 1) (by decide +kernel)) rfl rfl <|
  bb_geti (k := 292) (ci := 9) (j := 10) (idx := 178) (zd (i := .getfield 178) (n := 3) (by decide +kernel)) (by decide +kernel) (by decide +kernel) (by decide +kernel) (by decide +kernel) rfl g1138 <|
  bb_iload_n (n := 1) (i := 1) (zd (i := .iload_n 1) (n := 1) (by decide +kernel)) rfl rfl <|
  bb_lift (fun _ => q_iast (k := 295) (zd (i := .iastore) (n := 1) (by decide +kernel)) (by decide +kernel) (by decide +kernel) h1) <|
  bb_aload_n (n := 0) (i := 0) (zd (i := .aload_n 0) (n := 1) (by decide +kernel)) rfl rfl <|
  bb_getr (k := 292) (ci := 9) (j := 6) (idx := 24) (a := 296) (zd (i := .getfield 24) (n := 3) (by decide +kernel)) (by decide +kernel) (by decide +kernel) (by decide +kernel) (by decide +kernel) rfl g1134 (hR 6 (by decide)) <|
  bb_aload_n (n := 0) (i := 0) (zd (i := .aload_n 0) (n := 1) (by decide +kernel)) rfl rfl <|
  bb_geti (k := 292) (ci := 9) (j := 10) (idx := 178) (zd (i := .getfield 178) (n := 3) (by decide +kernel)) (by decide +kernel) (by decide +kernel) (by decide +kernel) (by decide +kernel) rfl g1138 <|
  bb_iload_n (n := 2) (i := 2) (zd (i := .iload_n 2) (n := 1) (by decide +kernel)) rfl rfl <|
  bb_lift (fun _ => q_iast (k := 296) (zd (i := .iastore) (n := 1) (by decide +kernel)) (by decide +kernel) (by decide +kernel) h2) <|
  bb_aload_n (n := 0) (i := 0) (zd (i := .aload_n 0) (n := 1) (by decide +kernel)) rfl rfl <|
  bb_getr (k := 292) (ci := 9) (j := 7) (idx := 27) (a := 297) (zd (i := .getfield 27) (n := 3) (by decide +kernel)) (by decide +kernel) (by decide +kernel) (by decide +kernel) (by decide +kernel) rfl g1135 (hR 7 (by decide)) <|
  bb_aload_n (n := 0) (i := 0) (zd (i := .aload_n 0) (n := 1) (by decide +kernel)) rfl rfl <|
  bb_geti (k := 292) (ci := 9) (j := 10) (idx := 178) (zd (i := .getfield 178) (n := 3) (by decide +kernel)) (by decide +kernel) (by decide +kernel) (by decide +kernel) (by decide +kernel) rfl g1138 <|
  bb_iload_n (n := 3) (i := 3) (zd (i := .iload_n 3) (n := 1) (by decide +kernel)) rfl rfl <|
  bb_lift (fun _ => q_iast (k := 297) (zd (i := .iastore) (n := 1) (by decide +kernel)) (by decide +kernel) (by decide +kernel) h3) <|
  bb_aload_n (n := 0) (i := 0) (zd (i := .aload_n 0) (n := 1) (by decide +kernel)) rfl rfl <|
  bb_getr (k := 292) (ci := 9) (j := 8) (idx := 30) (a := 298) (zd (i := .getfield 30) (n := 3) (by decide +kernel)) (by decide +kernel) (by decide +kernel) (by decide +kernel) (by decide +kernel) rfl g1136 (hR 8 (by decide)) <|
  bb_aload_n (n := 0) (i := 0) (zd (i := .aload_n 0) (n := 1) (by decide +kernel)) rfl rfl <|
  bb_geti (k := 292) (ci := 9) (j := 10) (idx := 178) (zd (i := .getfield 178) (n := 3) (by decide +kernel)) (by decide +kernel) (by decide +kernel) (by decide +kernel) (by decide +kernel) rfl g1138 <|
  bb_lload (i := 4) (zd (i := .lload 4) (n := 2) (by decide +kernel)) rfl <|
  bb_lift (fun _ => q_last (k := 298) (zd (i := .lastore) (n := 1) (by decide +kernel)) (by decide +kernel) (by decide +kernel) h4) <|
  bb_aload_n (n := 0) (i := 0) (zd (i := .aload_n 0) (n := 1) (by decide +kernel)) rfl rfl <|
  bb_lift (fun _ => q_dup (zd (i := .dup) (n := 1) (by decide +kernel)) rfl) <|
  bb_geti (k := 292) (ci := 9) (j := 10) (idx := 178) (zd (i := .getfield 178) (n := 3) (by decide +kernel)) (by decide +kernel) (by decide +kernel) (by decide +kernel) (by decide +kernel) rfl g1138 <|
  bb_lift (fun _ => q_iconst (n := 1) (zd (i := .iconst (1)) (n := 1) (by decide +kernel)) rfl) <|
  bb_lift (fun _ => q_iadd (zd (i := .iadd) (n := 1) (by decide +kernel))) <|
  bb_puti (k := 292) (ci := 9) (j := 10) (idx := 178) (zd (i := .putfield 178) (n := 3) (by decide +kernel)) (by decide +kernel) (by decide +kernel) (by decide +kernel) (by decide +kernel) g1138 rfl rfl <|
  (fun lv hl => q_vret (zd (i := .return_) (n := 1) (by decide +kernel)) rfl (Nat.le_refl _) (Nat.le_refl _) hQ)
theorem w_X9_sign_0 {Q : qQ} {I : qMI} {L : qML} {R : qMR} {a1 : Int32} {a2 : Int32} {a3 : Int32} (kt : ¬ a2 = 59 → wkB l G (d + 1) n_X9_sign Q 10 [.ref 292, .int a1, .int a2, .int a3, wkU] [] I L R) (kf : a2 = 59 → wkB l G (d + 1) n_X9_sign Q 6 [.ref 292, .int a1, .int a2, .int a3, wkU] [] I L R) : wkB l G (d + 1) n_X9_sign Q 0 [.ref 292, .int a1, .int a2, .int a3, wkU] [] I L R :=
  bb_iload_n (n := 2) (i := 2) (zd (i := .iload_n 2) (n := 1) (by decide +kernel)) rfl rfl <|
  bb_lift (fun _ => q_bipush (n := 59) (zd (i := .bipush (59)) (n := 2) (by decide +kernel)) rfl) <|
  (fun lv hl => q_icmp_ne (off := 7) (tgt := 10) (zd (i := .if_icmp .ne (7)) (n := 3) (by decide +kernel)) (by decide) (fun h => (kt h) lv hl) (fun h => (kf h) lv hl))
theorem w_X9_sign_6 {Q : qQ} {I : qMI} {L : qML} {R : qMR} {a1 : Int32} {a2 : Int32} {a3 : Int32} (k : wkB l G (d + 1) n_X9_sign Q 43 [.ref 292, .int a1, .int a2, .int a3, wkU] [.int 4] I L R) : wkB l G (d + 1) n_X9_sign Q 6 [.ref 292, .int a1, .int a2, .int a3, wkU] [] I L R :=
  bb_lift (fun _ => q_iconst (n := 4) (zd (i := .iconst (4)) (n := 1) (by decide +kernel)) rfl) <|
  bb_lift (fun _ => q_goto (off := 36) (tgt := 43) (zd (i := .goto (36)) (n := 3) (by decide +kernel)) (by decide)) k
theorem w_X9_sign_10 {Q : qQ} {I : qMI} {L : qML} {R : qMR} {a1 : Int32} {a2 : Int32} {a3 : Int32} (kt : ¬ a2 = 61 → wkB l G (d + 1) n_X9_sign Q 20 [.ref 292, .int a1, .int a2, .int a3, wkU] [] I L R) (kf : a2 = 61 → wkB l G (d + 1) n_X9_sign Q 16 [.ref 292, .int a1, .int a2, .int a3, wkU] [] I L R) : wkB l G (d + 1) n_X9_sign Q 10 [.ref 292, .int a1, .int a2, .int a3, wkU] [] I L R :=
  bb_iload_n (n := 2) (i := 2) (zd (i := .iload_n 2) (n := 1) (by decide +kernel)) rfl rfl <|
  bb_lift (fun _ => q_bipush (n := 61) (zd (i := .bipush (61)) (n := 2) (by decide +kernel)) rfl) <|
  (fun lv hl => q_icmp_ne (off := 7) (tgt := 20) (zd (i := .if_icmp .ne (7)) (n := 3) (by decide +kernel)) (by decide) (fun h => (kt h) lv hl) (fun h => (kf h) lv hl))
theorem w_X9_sign_16 {Q : qQ} {I : qMI} {L : qML} {R : qMR} {a1 : Int32} {a2 : Int32} {a3 : Int32} (k : wkB l G (d + 1) n_X9_sign Q 43 [.ref 292, .int a1, .int a2, .int a3, wkU] [.int 5] I L R) : wkB l G (d + 1) n_X9_sign Q 16 [.ref 292, .int a1, .int a2, .int a3, wkU] [] I L R :=
  bb_lift (fun _ => q_iconst (n := 5) (zd (i := .iconst (5)) (n := 1) (by decide +kernel)) rfl) <|
  bb_lift (fun _ => q_goto (off := 26) (tgt := 43) (zd (i := .goto (26)) (n := 3) (by decide +kernel)) (by decide)) k
theorem w_X9_sign_20 {Q : qQ} {I : qMI} {L : qML} {R : qMR} {a1 : Int32} {a2 : Int32} {a3 : Int32} (kt : ¬ a2 = 40 → wkB l G (d + 1) n_X9_sign Q 31 [.ref 292, .int a1, .int a2, .int a3, wkU] [] I L R) (kf : a2 = 40 → wkB l G (d + 1) n_X9_sign Q 26 [.ref 292, .int a1, .int a2, .int a3, wkU] [] I L R) : wkB l G (d + 1) n_X9_sign Q 20 [.ref 292, .int a1, .int a2, .int a3, wkU] [] I L R :=
  bb_iload_n (n := 2) (i := 2) (zd (i := .iload_n 2) (n := 1) (by decide +kernel)) rfl rfl <|
  bb_lift (fun _ => q_bipush (n := 40) (zd (i := .bipush (40)) (n := 2) (by decide +kernel)) rfl) <|
  (fun lv hl => q_icmp_ne (off := 8) (tgt := 31) (zd (i := .if_icmp .ne (8)) (n := 3) (by decide +kernel)) (by decide) (fun h => (kt h) lv hl) (fun h => (kf h) lv hl))
theorem w_X9_sign_26 {Q : qQ} {I : qMI} {L : qML} {R : qMR} {a1 : Int32} {a2 : Int32} {a3 : Int32} (k : wkB l G (d + 1) n_X9_sign Q 43 [.ref 292, .int a1, .int a2, .int a3, wkU] [.int 6] I L R) : wkB l G (d + 1) n_X9_sign Q 26 [.ref 292, .int a1, .int a2, .int a3, wkU] [] I L R :=
  bb_lift (fun _ => q_bipush (n := 6) (zd (i := .bipush (6)) (n := 2) (by decide +kernel)) rfl) <|
  bb_lift (fun _ => q_goto (off := 15) (tgt := 43) (zd (i := .goto (15)) (n := 3) (by decide +kernel)) (by decide)) k
theorem w_X9_sign_31 {Q : qQ} {I : qMI} {L : qML} {R : qMR} {a1 : Int32} {a2 : Int32} {a3 : Int32} (kt : ¬ a2 = 41 → wkB l G (d + 1) n_X9_sign Q 42 [.ref 292, .int a1, .int a2, .int a3, wkU] [] I L R) (kf : a2 = 41 → wkB l G (d + 1) n_X9_sign Q 37 [.ref 292, .int a1, .int a2, .int a3, wkU] [] I L R) : wkB l G (d + 1) n_X9_sign Q 31 [.ref 292, .int a1, .int a2, .int a3, wkU] [] I L R :=
  bb_iload_n (n := 2) (i := 2) (zd (i := .iload_n 2) (n := 1) (by decide +kernel)) rfl rfl <|
  bb_lift (fun _ => q_bipush (n := 41) (zd (i := .bipush (41)) (n := 2) (by decide +kernel)) rfl) <|
  (fun lv hl => q_icmp_ne (off := 8) (tgt := 42) (zd (i := .if_icmp .ne (8)) (n := 3) (by decide +kernel)) (by decide) (fun h => (kt h) lv hl) (fun h => (kf h) lv hl))
theorem w_X9_sign_37 {Q : qQ} {I : qMI} {L : qML} {R : qMR} {a1 : Int32} {a2 : Int32} {a3 : Int32} (k : wkB l G (d + 1) n_X9_sign Q 43 [.ref 292, .int a1, .int a2, .int a3, wkU] [.int 7] I L R) : wkB l G (d + 1) n_X9_sign Q 37 [.ref 292, .int a1, .int a2, .int a3, wkU] [] I L R :=
  bb_lift (fun _ => q_bipush (n := 7) (zd (i := .bipush (7)) (n := 2) (by decide +kernel)) rfl) <|
  bb_lift (fun _ => q_goto (off := 4) (tgt := 43) (zd (i := .goto (4)) (n := 3) (by decide +kernel)) (by decide)) k
theorem w_X9_sign_42 {Q : qQ} {I : qMI} {L : qML} {R : qMR} {a1 : Int32} {a2 : Int32} {a3 : Int32} (k : wkB l G (d + 1) n_X9_sign Q 43 [.ref 292, .int a1, .int a2, .int a3, wkU] [.int 3] I L R) : wkB l G (d + 1) n_X9_sign Q 42 [.ref 292, .int a1, .int a2, .int a3, wkU] [] I L R :=
  bb_lift (fun _ => q_iconst (n := 3) (zd (i := .iconst (3)) (n := 1) (by decide +kernel)) rfl) <|
  k
theorem w_X9_sign_43 {Q : qQ} {I : qMI} {L : qML} {R : qMR} {a1 : Int32} {a2 : Int32} {a3 : Int32} {s0 : Int32} (kt : ¬ a2 = 43 → wkB l G (d + 1) n_X9_sign Q 55 [.ref 292, .int a1, .int a2, .int a3, .int s0] [] I L R) (kf : a2 = 43 → wkB l G (d + 1) n_X9_sign Q 51 [.ref 292, .int a1, .int a2, .int a3, .int s0] [] I L R) : wkB l G (d + 1) n_X9_sign Q 43 [.ref 292, .int a1, .int a2, .int a3, wkU] [.int s0] I L R :=
  bb_istore (i := 4) (zd (i := .istore 4) (n := 2) (by decide +kernel)) (by decide +kernel) (wkNl_i rfl) <|
  bb_iload_n (n := 2) (i := 2) (zd (i := .iload_n 2) (n := 1) (by decide +kernel)) rfl rfl <|
  bb_lift (fun _ => q_bipush (n := 43) (zd (i := .bipush (43)) (n := 2) (by decide +kernel)) rfl) <|
  (fun lv hl => q_icmp_ne (off := 7) (tgt := 55) (zd (i := .if_icmp .ne (7)) (n := 3) (by decide +kernel)) (by decide) (fun h => (kt h) lv hl) (fun h => (kf h) lv hl))
theorem w_X9_sign_51 {Q : qQ} {I : qMI} {L : qML} {R : qMR} {a1 : Int32} {a2 : Int32} {a3 : Int32} {a4 : Int32} (k : wkB l G (d + 1) n_X9_sign Q 55 [.ref 292, .int a1, .int a2, .int a3, .int 8] [] I L R) : wkB l G (d + 1) n_X9_sign Q 51 [.ref 292, .int a1, .int a2, .int a3, .int a4] [] I L R :=
  bb_lift (fun _ => q_bipush (n := 8) (zd (i := .bipush (8)) (n := 2) (by decide +kernel)) rfl) <|
  bb_istore (i := 4) (zd (i := .istore 4) (n := 2) (by decide +kernel)) (by decide +kernel) (wkNl_i rfl) <|
  k
theorem w_X9_sign_55 {Q : qQ} {I : qMI} {L : qML} {R : qMR} {a1 : Int32} {a2 : Int32} {a3 : Int32} {a4 : Int32} (kt : ¬ a2 = 45 → wkB l G (d + 1) n_X9_sign Q 65 [.ref 292, .int a1, .int a2, .int a3, .int a4] [] I L R) (kf : a2 = 45 → wkB l G (d + 1) n_X9_sign Q 61 [.ref 292, .int a1, .int a2, .int a3, .int a4] [] I L R) : wkB l G (d + 1) n_X9_sign Q 55 [.ref 292, .int a1, .int a2, .int a3, .int a4] [] I L R :=
  bb_iload_n (n := 2) (i := 2) (zd (i := .iload_n 2) (n := 1) (by decide +kernel)) rfl rfl <|
  bb_lift (fun _ => q_bipush (n := 45) (zd (i := .bipush (45)) (n := 2) (by decide +kernel)) rfl) <|
  (fun lv hl => q_icmp_ne (off := 7) (tgt := 65) (zd (i := .if_icmp .ne (7)) (n := 3) (by decide +kernel)) (by decide) (fun h => (kt h) lv hl) (fun h => (kf h) lv hl))
theorem w_X9_sign_61 {Q : qQ} {I : qMI} {L : qML} {R : qMR} {a1 : Int32} {a2 : Int32} {a3 : Int32} {a4 : Int32} (k : wkB l G (d + 1) n_X9_sign Q 65 [.ref 292, .int a1, .int a2, .int a3, .int 9] [] I L R) : wkB l G (d + 1) n_X9_sign Q 61 [.ref 292, .int a1, .int a2, .int a3, .int a4] [] I L R :=
  bb_lift (fun _ => q_bipush (n := 9) (zd (i := .bipush (9)) (n := 2) (by decide +kernel)) rfl) <|
  bb_istore (i := 4) (zd (i := .istore 4) (n := 2) (by decide +kernel)) (by decide +kernel) (wkNl_i rfl) <|
  k
theorem w_X9_sign_65 {Q : qQ} {I : qMI} {L : qML} {R : qMR} {a1 : Int32} {a2 : Int32} {a3 : Int32} {a4 : Int32} (kt : ¬ a2 = 42 → wkB l G (d + 1) n_X9_sign Q 75 [.ref 292, .int a1, .int a2, .int a3, .int a4] [] I L R) (kf : a2 = 42 → wkB l G (d + 1) n_X9_sign Q 71 [.ref 292, .int a1, .int a2, .int a3, .int a4] [] I L R) : wkB l G (d + 1) n_X9_sign Q 65 [.ref 292, .int a1, .int a2, .int a3, .int a4] [] I L R :=
  bb_iload_n (n := 2) (i := 2) (zd (i := .iload_n 2) (n := 1) (by decide +kernel)) rfl rfl <|
  bb_lift (fun _ => q_bipush (n := 42) (zd (i := .bipush (42)) (n := 2) (by decide +kernel)) rfl) <|
  (fun lv hl => q_icmp_ne (off := 7) (tgt := 75) (zd (i := .if_icmp .ne (7)) (n := 3) (by decide +kernel)) (by decide) (fun h => (kt h) lv hl) (fun h => (kf h) lv hl))
theorem w_X9_sign_71 {Q : qQ} {I : qMI} {L : qML} {R : qMR} {a1 : Int32} {a2 : Int32} {a3 : Int32} {a4 : Int32} (k : wkB l G (d + 1) n_X9_sign Q 75 [.ref 292, .int a1, .int a2, .int a3, .int 10] [] I L R) : wkB l G (d + 1) n_X9_sign Q 71 [.ref 292, .int a1, .int a2, .int a3, .int a4] [] I L R :=
  bb_lift (fun _ => q_bipush (n := 10) (zd (i := .bipush (10)) (n := 2) (by decide +kernel)) rfl) <|
  bb_istore (i := 4) (zd (i := .istore 4) (n := 2) (by decide +kernel)) (by decide +kernel) (wkNl_i rfl) <|
  k
theorem w_X9_sign_75 {Q : qQ} {I : qMI} {L : qML} {R : qMR} {a1 : Int32} {a2 : Int32} {a3 : Int32} {a4 : Int32} (kt : ¬ a2 = 47 → wkB l G (d + 1) n_X9_sign Q 85 [.ref 292, .int a1, .int a2, .int a3, .int a4] [] I L R) (kf : a2 = 47 → wkB l G (d + 1) n_X9_sign Q 81 [.ref 292, .int a1, .int a2, .int a3, .int a4] [] I L R) : wkB l G (d + 1) n_X9_sign Q 75 [.ref 292, .int a1, .int a2, .int a3, .int a4] [] I L R :=
  bb_iload_n (n := 2) (i := 2) (zd (i := .iload_n 2) (n := 1) (by decide +kernel)) rfl rfl <|
  bb_lift (fun _ => q_bipush (n := 47) (zd (i := .bipush (47)) (n := 2) (by decide +kernel)) rfl) <|
  (fun lv hl => q_icmp_ne (off := 7) (tgt := 85) (zd (i := .if_icmp .ne (7)) (n := 3) (by decide +kernel)) (by decide) (fun h => (kt h) lv hl) (fun h => (kf h) lv hl))
theorem w_X9_sign_81 {Q : qQ} {I : qMI} {L : qML} {R : qMR} {a1 : Int32} {a2 : Int32} {a3 : Int32} {a4 : Int32} (k : wkB l G (d + 1) n_X9_sign Q 85 [.ref 292, .int a1, .int a2, .int a3, .int 15] [] I L R) : wkB l G (d + 1) n_X9_sign Q 81 [.ref 292, .int a1, .int a2, .int a3, .int a4] [] I L R :=
  bb_lift (fun _ => q_bipush (n := 15) (zd (i := .bipush (15)) (n := 2) (by decide +kernel)) rfl) <|
  bb_istore (i := 4) (zd (i := .istore 4) (n := 2) (by decide +kernel)) (by decide +kernel) (wkNl_i rfl) <|
  k
theorem w_X9_sign_85 {Q : qQ} {I : qMI} {L : qML} {R : qMR} {a1 : Int32} {a2 : Int32} {a3 : Int32} {a4 : Int32} (kt : ¬ a2 = 60 → wkB l G (d + 1) n_X9_sign Q 95 [.ref 292, .int a1, .int a2, .int a3, .int a4] [] I L R) (kf : a2 = 60 → wkB l G (d + 1) n_X9_sign Q 91 [.ref 292, .int a1, .int a2, .int a3, .int a4] [] I L R) : wkB l G (d + 1) n_X9_sign Q 85 [.ref 292, .int a1, .int a2, .int a3, .int a4] [] I L R :=
  bb_iload_n (n := 2) (i := 2) (zd (i := .iload_n 2) (n := 1) (by decide +kernel)) rfl rfl <|
  bb_lift (fun _ => q_bipush (n := 60) (zd (i := .bipush (60)) (n := 2) (by decide +kernel)) rfl) <|
  (fun lv hl => q_icmp_ne (off := 7) (tgt := 95) (zd (i := .if_icmp .ne (7)) (n := 3) (by decide +kernel)) (by decide) (fun h => (kt h) lv hl) (fun h => (kf h) lv hl))
theorem w_X9_sign_91 {Q : qQ} {I : qMI} {L : qML} {R : qMR} {a1 : Int32} {a2 : Int32} {a3 : Int32} {a4 : Int32} (k : wkB l G (d + 1) n_X9_sign Q 95 [.ref 292, .int a1, .int a2, .int a3, .int 13] [] I L R) : wkB l G (d + 1) n_X9_sign Q 91 [.ref 292, .int a1, .int a2, .int a3, .int a4] [] I L R :=
  bb_lift (fun _ => q_bipush (n := 13) (zd (i := .bipush (13)) (n := 2) (by decide +kernel)) rfl) <|
  bb_istore (i := 4) (zd (i := .istore 4) (n := 2) (by decide +kernel)) (by decide +kernel) (wkNl_i rfl) <|
  k
theorem w_X9_sign_95 {Q : qQ} {I : qMI} {L : qML} {R : qMR} {a1 : Int32} {a2 : Int32} {a3 : Int32} {a4 : Int32} {P : qMI → qML → Prop} (hc : wkV l G d n_X9_token [.ref 292, .int a4, .int a1, .int 0, .long 0] I L R P) (kk : ∀ I' L', P I' L' → wkB l G (d + 1) n_X9_sign Q 104 [.ref 292, .int a1, .int a2, .int a3, .int a4] [] I' L' R) : wkB l G (d + 1) n_X9_sign Q 95 [.ref 292, .int a1, .int a2, .int a3, .int a4] [] I L R :=
  bb_aload_n (n := 0) (i := 0) (zd (i := .aload_n 0) (n := 1) (by decide +kernel)) rfl rfl <|
  bb_iload (i := 4) (zd (i := .iload 4) (n := 2) (by decide +kernel)) rfl <|
  bb_iload_n (n := 1) (i := 1) (zd (i := .iload_n 1) (n := 1) (by decide +kernel)) rfl rfl <|
  bb_lift (fun _ => q_iconst (n := 0) (zd (i := .iconst (0)) (n := 1) (by decide +kernel)) rfl) <|
  bb_lift (fun _ => q_lconst (n := 0) (zd (i := .lconst 0) (n := 1) (by decide +kernel)) rfl) <|
  bb_callVV (idx := 185) (k := 292) (ci := 9) (N := n_X9_token) (As := [.int a4, .int a1, .int 0, .long 0]) (st := []) (zd (i := .invokevirtual 185) (n := 3) (by decide +kernel)) to_X9_token g1348 g1350 g47 (Nat.le_of_ble_eq_true rfl) (by decide +kernel) (by decide +kernel) (by decide +kernel) rfl rfl rfl hc kk
theorem w_X9_sign_104 {Q : qQ} {I : qMI} {L : qML} {R : qMR} {a1 : Int32} {a2 : Int32} {a3 : Int32} {a4 : Int32} (hQ : Q (some (.int 1)) 336 I L R) : wkB l G (d + 1) n_X9_sign Q 104 [.ref 292, .int a1, .int a2, .int a3, .int a4] [] I L R :=
  bb_lift (fun _ => q_iconst (n := 1) (zd (i := .iconst (1)) (n := 1) (by decide +kernel)) rfl) <|
  (fun lv hl => q_iret (zd (i := .ireturn) (n := 1) (by decide +kernel)) rfl rfl (Nat.le_refl _) (Nat.le_refl _) hQ)
end
