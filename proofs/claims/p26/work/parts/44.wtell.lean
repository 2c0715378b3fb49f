section
variable {l : Launch} {G : qG} {d : Nat}
def n_X9_tellOne : qMn := (yX9_tellOne, cX9_tellOne, 2, none, 0, 0)
theorem to_X9_tellOne : qTo n_X9_tellOne 0 := ⟨g1369, g110, ⟨by decide, by decide, by decide +kernel⟩, by decide⟩
theorem w_X9_tellOne_0 {Q : qQ} {I : qMI} {L : qML} {R : qMR} (hR : wkR R)  (h1 : vp_in (I 292 11) 403) (k : qSwt (fun tg => wkB l G (d + 1) n_X9_tellOne Q tg [.ref 292, wkU] [] I L R) (I 295 (I 292 11).toNatClampNeg) 20 [68, 182, 374, 374, 374, 374, 374, 297, 316, 335, 354] 374) : wkB l G (d + 1) n_X9_tellOne Q 0 [.ref 292, wkU] [] I L R :=
  bb_aload_n (n := 0) (i := 0) (zd (i := .aload_n 0) (n := 1) (by decide +kernel)) rfl rfl <|
  bb_getr (k := 292) (ci := 9) (j := 5) (idx := 20) (a := 295) (zd (i := .getfield 20) (n := 3) (by decide +kernel)) (by decide +kernel) (by decide +kernel) (by decide +kernel) (by decide +kernel) rfl g1133 (hR 5 (by decide)) <|
  bb_aload_n (n := 0) (i := 0) (zd (i := .aload_n 0) (n := 1) (by decide +kernel)) rfl rfl <|
  bb_geti (k := 292) (ci := 9) (j := 11) (idx := 203) (zd (i := .getfield 203) (n := 3) (by decide +kernel)) (by decide +kernel) (by decide +kernel) (by decide +kernel) (by decide +kernel) rfl g1139 <|
  bb_lift (fun _ => q_iald (k := 295) (zd (i := .iaload) (n := 1) (by decide +kernel)) (by decide +kernel) (by decide +kernel) h1) <|
  bb_table (v := 20) (df := 374) (len := 59) (dflt := 365) (lo := 20) (hi := 30) (offs := #[59, 173, 365, 365, 365, 365, 365, 288, 307, 326, 345]) (tgts := [68, 182, 374, 374, 374, 374, 374, 297, 316, 335, 354]) (zd (i := .tableswitch (365) (20) (30) #[59, 173, 365, 365, 365, 365, 365, 288, 307, 326, 345]) (n := 59) (by decide +kernel)) rfl rfl (by decide +kernel) (by decide +kernel) (by decide +kernel) k
theorem w_X9_tellOne_68 {Q : qQ} {I : qMI} {L : qML} {R : qMR} (hR : wkR R)  (h1 : vp_in (I 292 19) 2) {P : qMI → qML → Prop} (hc : wkV l G d n_X9_roomFor [.ref 292, .int (I 301 (I 292 19).toNatClampNeg), .int 6] I L R P) (kk : ∀ I' L', P I' L' → wkB l G (d + 1) n_X9_tellOne Q 83 [.ref 292, wkU] [] I' L' R) : wkB l G (d + 1) n_X9_tellOne Q 68 [.ref 292, wkU] [] I L R :=
  bb_aload_n (n := 0) (i := 0) (zd (i := .aload_n 0) (n := 1) (by decide +kernel)) rfl rfl <|
  bb_aload_n (n := 0) (i := 0) (zd (i := .aload_n 0) (n := 1) (by decide +kernel)) rfl rfl <|
  bb_getr (k := 292) (ci := 9) (j := 22) (idx := 43) (a := 301) (zd (i := .getfield 43) (n := 3) (by decide +kernel)) (by decide +kernel) (by decide +kernel) (by decide +kernel) (by decide +kernel) rfl g1150 (hR 22 (by decide)) <|
  bb_aload_n (n := 0) (i := 0) (zd (i := .aload_n 0) (n := 1) (by decide +kernel)) rfl rfl <|
  bb_geti (k := 292) (ci := 9) (j := 19) (idx := 233) (zd (i := .getfield 233) (n := 3) (by decide +kernel)) (by decide +kernel) (by decide +kernel) (by decide +kernel) (by decide +kernel) rfl g1147 <|
  bb_lift (fun _ => q_iald (k := 301) (zd (i := .iaload) (n := 1) (by decide +kernel)) (by decide +kernel) (by decide +kernel) h1) <|
  bb_lift (fun _ => q_bipush (n := 6) (zd (i := .bipush (6)) (n := 2) (by decide +kernel)) rfl) <|
  bb_callVV (idx := 261) (k := 292) (ci := 9) (N := n_X9_roomFor) (As := [.int (I 301 (I 292 19).toNatClampNeg), .int 6]) (st := []) (zd (i := .invokevirtual 261) (n := 3) (by decide +kernel)) to_X9_roomFor g1370 g1372 g51 (Nat.le_of_ble_eq_true rfl) (by decide +kernel) (by decide +kernel) (by decide +kernel) rfl rfl rfl hc kk
theorem w_X9_tellOne_83 {Q : qQ} {I : qMI} {L : qML} {R : qMR}  (kt : (I 292 13) ≤ 0 → wkB l G (d + 1) n_X9_tellOne Q 91 [.ref 292, wkU] [] I L R) (kf : ¬ (I 292 13) ≤ 0 → wkB l G (d + 1) n_X9_tellOne Q 90 [.ref 292, wkU] [] I L R) : wkB l G (d + 1) n_X9_tellOne Q 83 [.ref 292, wkU] [] I L R :=
  bb_aload_n (n := 0) (i := 0) (zd (i := .aload_n 0) (n := 1) (by decide +kernel)) rfl rfl <|
  bb_geti (k := 292) (ci := 9) (j := 13) (idx := 200) (zd (i := .getfield 200) (n := 3) (by decide +kernel)) (by decide +kernel) (by decide +kernel) (by decide +kernel) (by decide +kernel) rfl g1141 <|
  (fun lv hl => q_if_le (off := 4) (tgt := 91) (zd (i := .ifCond .le (4)) (n := 3) (by decide +kernel)) (by decide) (fun h => (kt h) lv hl) (fun h => (kf h) lv hl))
theorem w_X9_tellOne_90 {Q : qQ} {I : qMI} {L : qML} {R : qMR}  (hQ : Q none 336 I L R) : wkB l G (d + 1) n_X9_tellOne Q 90 [.ref 292, wkU] [] I L R :=
  (fun lv hl => q_vret (zd (i := .return_) (n := 1) (by decide +kernel)) rfl (Nat.le_refl _) (Nat.le_refl _) hQ)
theorem w_X9_tellOne_91 {Q : qQ} {I : qMI} {L : qML} {R : qMR}  {P : Int32 → qMI → qML → Prop} (hc : wkI l G d n_X9_named [.ref 292] I L R P) (kk : ∀ y I' L', P y I' L' → wkB l G (d + 1) n_X9_tellOne Q 95 [.ref 292, wkU] [.int y] I' L' R) : wkB l G (d + 1) n_X9_tellOne Q 91 [.ref 292, wkU] [] I L R :=
  bb_aload_n (n := 0) (i := 0) (zd (i := .aload_n 0) (n := 1) (by decide +kernel)) rfl rfl <|
  bb_callVI (idx := 265) (k := 292) (ci := 9) (N := n_X9_named) (As := []) (st := []) (zd (i := .invokevirtual 265) (n := 3) (by decide +kernel)) to_X9_named g1382 g1384 g54 (Nat.le_of_ble_eq_true rfl) (by decide +kernel) (by decide +kernel) (by decide +kernel) rfl rfl rfl hc kk
theorem w_X9_tellOne_95 {Q : qQ} {I : qMI} {L : qML} {R : qMR} (hR : wkR R) {s0 : Int32} (h1 : vp_in (I 292 19) 2) {P : Int32 → qMI → qML → Prop} (hc : wkI l G d n_X9_bounded [.ref 292, .int 0, .int 19] I L R P) (kk : ∀ y I' L', P y I' L' → wkB l G (d + 1) n_X9_tellOne Q 124 [.ref 292, .int s0] [.int y, .int ((6 * (I 292 19)) + (I 301 (I 292 19).toNatClampNeg)), .ref 302] I' L' R) : wkB l G (d + 1) n_X9_tellOne Q 95 [.ref 292, wkU] [.int s0] I L R :=
  bb_istore_n (n := 1) (i := 1) (zd (i := .istore_n 1) (n := 1) (by decide +kernel)) rfl (by decide +kernel) (wkNl_r rfl) <|
  bb_aload_n (n := 0) (i := 0) (zd (i := .aload_n 0) (n := 1) (by decide +kernel)) rfl rfl <|
  bb_getr (k := 292) (ci := 9) (j := 23) (idx := 46) (a := 302) (zd (i := .getfield 46) (n := 3) (by decide +kernel)) (by decide +kernel) (by decide +kernel) (by decide +kernel) (by decide +kernel) rfl g1151 (hR 23 (by decide)) <|
  bb_lift (fun _ => q_bipush (n := 6) (zd (i := .bipush (6)) (n := 2) (by decide +kernel)) rfl) <|
  bb_aload_n (n := 0) (i := 0) (zd (i := .aload_n 0) (n := 1) (by decide +kernel)) rfl rfl <|
  bb_geti (k := 292) (ci := 9) (j := 19) (idx := 233) (zd (i := .getfield 233) (n := 3) (by decide +kernel)) (by decide +kernel) (by decide +kernel) (by decide +kernel) (by decide +kernel) rfl g1147 <|
  bb_lift (fun _ => q_imul (zd (i := .imul) (n := 1) (by decide +kernel))) <|
  bb_aload_n (n := 0) (i := 0) (zd (i := .aload_n 0) (n := 1) (by decide +kernel)) rfl rfl <|
  bb_getr (k := 292) (ci := 9) (j := 22) (idx := 43) (a := 301) (zd (i := .getfield 43) (n := 3) (by decide +kernel)) (by decide +kernel) (by decide +kernel) (by decide +kernel) (by decide +kernel) rfl g1150 (hR 22 (by decide)) <|
  bb_aload_n (n := 0) (i := 0) (zd (i := .aload_n 0) (n := 1) (by decide +kernel)) rfl rfl <|
  bb_geti (k := 292) (ci := 9) (j := 19) (idx := 233) (zd (i := .getfield 233) (n := 3) (by decide +kernel)) (by decide +kernel) (by decide +kernel) (by decide +kernel) (by decide +kernel) rfl g1147 <|
  bb_lift (fun _ => q_iald (k := 301) (zd (i := .iaload) (n := 1) (by decide +kernel)) (by decide +kernel) (by decide +kernel) h1) <|
  bb_lift (fun _ => q_iadd (zd (i := .iadd) (n := 1) (by decide +kernel))) <|
  bb_aload_n (n := 0) (i := 0) (zd (i := .aload_n 0) (n := 1) (by decide +kernel)) rfl rfl <|
  bb_lift (fun _ => q_iconst (n := 0) (zd (i := .iconst (0)) (n := 1) (by decide +kernel)) rfl) <|
  bb_lift (fun _ => q_bipush (n := 19) (zd (i := .bipush (19)) (n := 2) (by decide +kernel)) rfl) <|
  bb_callVI (idx := 254) (k := 292) (ci := 9) (N := n_X9_bounded) (As := [.int 0, .int 19]) (st := [.int ((6 * (I 292 19)) + (I 301 (I 292 19).toNatClampNeg)), .ref 302]) (zd (i := .invokevirtual 254) (n := 3) (by decide +kernel)) to_X9_bounded g1394 g1396 g57 (Nat.le_of_ble_eq_true rfl) (by decide +kernel) (by decide +kernel) (by decide +kernel) rfl rfl rfl hc kk
theorem w_X9_tellOne_124 {Q : qQ} {I : qMI} {L : qML} {R : qMR} (hR : wkR R) {a1 : Int32} {s1 : Int32} {s2 : Int32} (h1 : vp_in s1 12) (h2 : vp_in ((qUp I 302 s1.toNatClampNeg s2) 292 19) 2) {P : Int32 → qMI → qML → Prop} (hc : wkI l G d n_X9_bounded [.ref 292, .int 1, .int 9] (qUp I 302 s1.toNatClampNeg s2) L R P) (kk : ∀ y I' L', P y I' L' → wkB l G (d + 1) n_X9_tellOne Q 153 [.ref 292, .int a1] [.int y, .int ((6 * ((qUp I 302 s1.toNatClampNeg s2) 292 19)) + ((qUp I 302 s1.toNatClampNeg s2) 301 ((qUp I 302 s1.toNatClampNeg s2) 292 19).toNatClampNeg)), .ref 303] I' L' R) : wkB l G (d + 1) n_X9_tellOne Q 124 [.ref 292, .int a1] [.int s2, .int s1, .ref 302] I L R :=
  bb_lift (fun _ => q_iast (k := 302) (zd (i := .iastore) (n := 1) (by decide +kernel)) (by decide +kernel) (by decide +kernel) h1) <|
  bb_aload_n (n := 0) (i := 0) (zd (i := .aload_n 0) (n := 1) (by decide +kernel)) rfl rfl <|
  bb_getr (k := 292) (ci := 9) (j := 24) (idx := 49) (a := 303) (zd (i := .getfield 49) (n := 3) (by decide +kernel)) (by decide +kernel) (by decide +kernel) (by decide +kernel) (by decide +kernel) rfl g1152 (hR 24 (by decide)) <|
  bb_lift (fun _ => q_bipush (n := 6) (zd (i := .bipush (6)) (n := 2) (by decide +kernel)) rfl) <|
  bb_aload_n (n := 0) (i := 0) (zd (i := .aload_n 0) (n := 1) (by decide +kernel)) rfl rfl <|
  bb_geti (k := 292) (ci := 9) (j := 19) (idx := 233) (zd (i := .getfield 233) (n := 3) (by decide +kernel)) (by decide +kernel) (by decide +kernel) (by decide +kernel) (by decide +kernel) rfl g1147 <|
  bb_lift (fun _ => q_imul (zd (i := .imul) (n := 1) (by decide +kernel))) <|
  bb_aload_n (n := 0) (i := 0) (zd (i := .aload_n 0) (n := 1) (by decide +kernel)) rfl rfl <|
  bb_getr (k := 292) (ci := 9) (j := 22) (idx := 43) (a := 301) (zd (i := .getfield 43) (n := 3) (by decide +kernel)) (by decide +kernel) (by decide +kernel) (by decide +kernel) (by decide +kernel) rfl g1150 (hR 22 (by decide)) <|
  bb_aload_n (n := 0) (i := 0) (zd (i := .aload_n 0) (n := 1) (by decide +kernel)) rfl rfl <|
  bb_geti (k := 292) (ci := 9) (j := 19) (idx := 233) (zd (i := .getfield 233) (n := 3) (by decide +kernel)) (by decide +kernel) (by decide +kernel) (by decide +kernel) (by decide +kernel) rfl g1147 <|
  bb_lift (fun _ => q_iald (k := 301) (zd (i := .iaload) (n := 1) (by decide +kernel)) (by decide +kernel) (by decide +kernel) h2) <|
  bb_lift (fun _ => q_iadd (zd (i := .iadd) (n := 1) (by decide +kernel))) <|
  bb_aload_n (n := 0) (i := 0) (zd (i := .aload_n 0) (n := 1) (by decide +kernel)) rfl rfl <|
  bb_lift (fun _ => q_iconst (n := 1) (zd (i := .iconst (1)) (n := 1) (by decide +kernel)) rfl) <|
  bb_lift (fun _ => q_bipush (n := 9) (zd (i := .bipush (9)) (n := 2) (by decide +kernel)) rfl) <|
  bb_callVI (idx := 254) (k := 292) (ci := 9) (N := n_X9_bounded) (As := [.int 1, .int 9]) (st := [.int ((6 * ((qUp I 302 s1.toNatClampNeg s2) 292 19)) + ((qUp I 302 s1.toNatClampNeg s2) 301 ((qUp I 302 s1.toNatClampNeg s2) 292 19).toNatClampNeg)), .ref 303]) (zd (i := .invokevirtual 254) (n := 3) (by decide +kernel)) to_X9_bounded g1394 g1396 g57 (Nat.le_of_ble_eq_true rfl) (by decide +kernel) (by decide +kernel) (by decide +kernel) rfl rfl rfl hc kk
theorem w_X9_tellOne_153 {Q : qQ} {I : qMI} {L : qML} {R : qMR} {a1 : Int32} {s1 : Int32} {s2 : Int32} (h1 : vp_in s1 12) {P : qMI → qML → Prop} (hc : wkV l G d n_X9_ends [.ref 292, .int a1] (qUp I 303 s1.toNatClampNeg s2) L R P) (kk : ∀ I' L', P I' L' → wkB l G (d + 1) n_X9_tellOne Q 159 [.ref 292, .int a1] [] I' L' R) : wkB l G (d + 1) n_X9_tellOne Q 153 [.ref 292, .int a1] [.int s2, .int s1, .ref 303] I L R :=
  bb_lift (fun _ => q_iast (k := 303) (zd (i := .iastore) (n := 1) (by decide +kernel)) (by decide +kernel) (by decide +kernel) h1) <|
  bb_aload_n (n := 0) (i := 0) (zd (i := .aload_n 0) (n := 1) (by decide +kernel)) rfl rfl <|
  bb_iload_n (n := 1) (i := 1) (zd (i := .iload_n 1) (n := 1) (by decide +kernel)) rfl rfl <|
  bb_callVV (idx := 269) (k := 292) (ci := 9) (N := n_X9_ends) (As := [.int a1]) (st := []) (zd (i := .invokevirtual 269) (n := 3) (by decide +kernel)) to_X9_ends g1398 g1400 g58 (Nat.le_of_ble_eq_true rfl) (by decide +kernel) (by decide +kernel) (by decide +kernel) rfl rfl rfl hc kk
theorem w_X9_tellOne_159 {Q : qQ} {I : qMI} {L : qML} {R : qMR} {a1 : Int32} (kt : ¬ (I 292 13) = 0 → wkB l G (d + 1) n_X9_tellOne Q 427 [.ref 292, wkU] [] I L R) (kf : (I 292 13) = 0 → wkB l G (d + 1) n_X9_tellOne Q 166 [.ref 292, .int a1] [] I L R) : wkB l G (d + 1) n_X9_tellOne Q 159 [.ref 292, .int a1] [] I L R :=
  bb_aload_n (n := 0) (i := 0) (zd (i := .aload_n 0) (n := 1) (by decide +kernel)) rfl rfl <|
  bb_geti (k := 292) (ci := 9) (j := 13) (idx := 200) (zd (i := .getfield 200) (n := 3) (by decide +kernel)) (by decide +kernel) (by decide +kernel) (by decide +kernel) (by decide +kernel) rfl g1141 <|
  (fun lv hl => q_if_ne (off := 264) (tgt := 427) (zd (i := .ifCond .ne (264)) (n := 3) (by decide +kernel)) (by decide) (fun h => ((wkB_le (vs := [.ref 292, wkU]) (ws := [.ref 292, .int a1]) ⟨Or.inr rfl, Or.inl rfl, trivial⟩ (kt h))) lv hl) (fun h => (kf h) lv hl))
theorem w_X9_tellOne_166 {Q : qQ} {I : qMI} {L : qML} {R : qMR} (hR : wkR R) {a1 : Int32} (h1 : vp_in (I 292 19) 2) (h2 : vp_in (I 292 19) 2) (k : wkB l G (d + 1) n_X9_tellOne Q 427 [.ref 292, wkU] [] (qUp I 301 (I 292 19).toNatClampNeg ((I 301 (I 292 19).toNatClampNeg) + 1)) L R) : wkB l G (d + 1) n_X9_tellOne Q 166 [.ref 292, .int a1] [] I L R :=
  bb_aload_n (n := 0) (i := 0) (zd (i := .aload_n 0) (n := 1) (by decide +kernel)) rfl rfl <|
  bb_getr (k := 292) (ci := 9) (j := 22) (idx := 43) (a := 301) (zd (i := .getfield 43) (n := 3) (by decide +kernel)) (by decide +kernel) (by decide +kernel) (by decide +kernel) (by decide +kernel) rfl g1150 (hR 22 (by decide)) <|
  bb_aload_n (n := 0) (i := 0) (zd (i := .aload_n 0) (n := 1) (by decide +kernel)) rfl rfl <|
  bb_geti (k := 292) (ci := 9) (j := 19) (idx := 233) (zd (i := .getfield 233) (n := 3) (by decide +kernel)) (by decide +kernel) (by decide +kernel) (by decide +kernel) (by decide +kernel) rfl g1147 <|
  bb_lift (fun _ => q_dup2 (zd (i := .dup2) (n := 1) (by decide +kernel)) rfl rfl) <|
  bb_lift (fun _ => q_iald (k := 301) (zd (i := .iaload) (n := 1) (by decide +kernel)) (by decide +kernel) (by decide +kernel) h1) <|
  bb_lift (fun _ => q_iconst (n := 1) (zd (i := .iconst (1)) (n := 1) (by decide +kernel)) rfl) <|
  bb_lift (fun _ => q_iadd (zd (i := .iadd) (n := 1) (by decide +kernel))) <|
  bb_lift (fun _ => q_iast (k := 301) (zd (i := .iastore) (n := 1) (by decide +kernel)) (by decide +kernel) (by decide +kernel) h2) <|
  bb_lift (fun _ => q_goto (off := 248) (tgt := 427) (zd (i := .goto (248)) (n := 3) (by decide +kernel)) (by decide)) (wkB_le (vs := [.ref 292, wkU]) (ws := [.ref 292, .int a1]) ⟨Or.inr rfl, Or.inl rfl, trivial⟩ (k))
theorem w_X9_tellOne_182 {Q : qQ} {I : qMI} {L : qML} {R : qMR} (hR : wkR R)  (h1 : vp_in (I 292 19) 2) {P : qMI → qML → Prop} (hc : wkV l G d n_X9_roomFor [.ref 292, .int (I 304 (I 292 19).toNatClampNeg), .int 6] I L R P) (kk : ∀ I' L', P I' L' → wkB l G (d + 1) n_X9_tellOne Q 197 [.ref 292, wkU] [] I' L' R) : wkB l G (d + 1) n_X9_tellOne Q 182 [.ref 292, wkU] [] I L R :=
  bb_aload_n (n := 0) (i := 0) (zd (i := .aload_n 0) (n := 1) (by decide +kernel)) rfl rfl <|
  bb_aload_n (n := 0) (i := 0) (zd (i := .aload_n 0) (n := 1) (by decide +kernel)) rfl rfl <|
  bb_getr (k := 292) (ci := 9) (j := 25) (idx := 52) (a := 304) (zd (i := .getfield 52) (n := 3) (by decide +kernel)) (by decide +kernel) (by decide +kernel) (by decide +kernel) (by decide +kernel) rfl g1153 (hR 25 (by decide)) <|
  bb_aload_n (n := 0) (i := 0) (zd (i := .aload_n 0) (n := 1) (by decide +kernel)) rfl rfl <|
  bb_geti (k := 292) (ci := 9) (j := 19) (idx := 233) (zd (i := .getfield 233) (n := 3) (by decide +kernel)) (by decide +kernel) (by decide +kernel) (by decide +kernel) (by decide +kernel) rfl g1147 <|
  bb_lift (fun _ => q_iald (k := 304) (zd (i := .iaload) (n := 1) (by decide +kernel)) (by decide +kernel) (by decide +kernel) h1) <|
  bb_lift (fun _ => q_bipush (n := 6) (zd (i := .bipush (6)) (n := 2) (by decide +kernel)) rfl) <|
  bb_callVV (idx := 261) (k := 292) (ci := 9) (N := n_X9_roomFor) (As := [.int (I 304 (I 292 19).toNatClampNeg), .int 6]) (st := []) (zd (i := .invokevirtual 261) (n := 3) (by decide +kernel)) to_X9_roomFor g1370 g1372 g51 (Nat.le_of_ble_eq_true rfl) (by decide +kernel) (by decide +kernel) (by decide +kernel) rfl rfl rfl hc kk
theorem w_X9_tellOne_197 {Q : qQ} {I : qMI} {L : qML} {R : qMR}  (kt : (I 292 13) ≤ 0 → wkB l G (d + 1) n_X9_tellOne Q 205 [.ref 292, wkU] [] I L R) (kf : ¬ (I 292 13) ≤ 0 → wkB l G (d + 1) n_X9_tellOne Q 204 [.ref 292, wkU] [] I L R) : wkB l G (d + 1) n_X9_tellOne Q 197 [.ref 292, wkU] [] I L R :=
  bb_aload_n (n := 0) (i := 0) (zd (i := .aload_n 0) (n := 1) (by decide +kernel)) rfl rfl <|
  bb_geti (k := 292) (ci := 9) (j := 13) (idx := 200) (zd (i := .getfield 200) (n := 3) (by decide +kernel)) (by decide +kernel) (by decide +kernel) (by decide +kernel) (by decide +kernel) rfl g1141 <|
  (fun lv hl => q_if_le (off := 4) (tgt := 205) (zd (i := .ifCond .le (4)) (n := 3) (by decide +kernel)) (by decide) (fun h => (kt h) lv hl) (fun h => (kf h) lv hl))
theorem w_X9_tellOne_204 {Q : qQ} {I : qMI} {L : qML} {R : qMR}  (hQ : Q none 336 I L R) : wkB l G (d + 1) n_X9_tellOne Q 204 [.ref 292, wkU] [] I L R :=
  (fun lv hl => q_vret (zd (i := .return_) (n := 1) (by decide +kernel)) rfl (Nat.le_refl _) (Nat.le_refl _) hQ)
theorem w_X9_tellOne_205 {Q : qQ} {I : qMI} {L : qML} {R : qMR}  {P : Int32 → qMI → qML → Prop} (hc : wkI l G d n_X9_named [.ref 292] I L R P) (kk : ∀ y I' L', P y I' L' → wkB l G (d + 1) n_X9_tellOne Q 209 [.ref 292, wkU] [.int y] I' L' R) : wkB l G (d + 1) n_X9_tellOne Q 205 [.ref 292, wkU] [] I L R :=
  bb_aload_n (n := 0) (i := 0) (zd (i := .aload_n 0) (n := 1) (by decide +kernel)) rfl rfl <|
  bb_callVI (idx := 265) (k := 292) (ci := 9) (N := n_X9_named) (As := []) (st := []) (zd (i := .invokevirtual 265) (n := 3) (by decide +kernel)) to_X9_named g1382 g1384 g54 (Nat.le_of_ble_eq_true rfl) (by decide +kernel) (by decide +kernel) (by decide +kernel) rfl rfl rfl hc kk
theorem w_X9_tellOne_209 {Q : qQ} {I : qMI} {L : qML} {R : qMR} (hR : wkR R) {s0 : Int32} (h1 : vp_in (I 292 19) 2) {P : Int32 → qMI → qML → Prop} (hc : wkI l G d n_X9_bounded [.ref 292, .int 0, .int 19] I L R P) (kk : ∀ y I' L', P y I' L' → wkB l G (d + 1) n_X9_tellOne Q 238 [.ref 292, .int s0] [.int y, .int ((6 * (I 292 19)) + (I 304 (I 292 19).toNatClampNeg)), .ref 305] I' L' R) : wkB l G (d + 1) n_X9_tellOne Q 209 [.ref 292, wkU] [.int s0] I L R :=
  bb_istore_n (n := 1) (i := 1) (zd (i := .istore_n 1) (n := 1) (by decide +kernel)) rfl (by decide +kernel) (wkNl_r rfl) <|
  bb_aload_n (n := 0) (i := 0) (zd (i := .aload_n 0) (n := 1) (by decide +kernel)) rfl rfl <|
  bb_getr (k := 292) (ci := 9) (j := 26) (idx := 55) (a := 305) (zd (i := .getfield 55) (n := 3) (by decide +kernel)) (by decide +kernel) (by decide +kernel) (by decide +kernel) (by decide +kernel) rfl g1154 (hR 26 (by decide)) <|
  bb_lift (fun _ => q_bipush (n := 6) (zd (i := .bipush (6)) (n := 2) (by decide +kernel)) rfl) <|
  bb_aload_n (n := 0) (i := 0) (zd (i := .aload_n 0) (n := 1) (by decide +kernel)) rfl rfl <|
  bb_geti (k := 292) (ci := 9) (j := 19) (idx := 233) (zd (i := .getfield 233) (n := 3) (by decide +kernel)) (by decide +kernel) (by decide +kernel) (by decide +kernel) (by decide +kernel) rfl g1147 <|
  bb_lift (fun _ => q_imul (zd (i := .imul) (n := 1) (by decide +kernel))) <|
  bb_aload_n (n := 0) (i := 0) (zd (i := .aload_n 0) (n := 1) (by decide +kernel)) rfl rfl <|
  bb_getr (k := 292) (ci := 9) (j := 25) (idx := 52) (a := 304) (zd (i := .getfield 52) (n := 3) (by decide +kernel)) (by decide +kernel) (by decide +kernel) (by decide +kernel) (by decide +kernel) rfl g1153 (hR 25 (by decide)) <|
  bb_aload_n (n := 0) (i := 0) (zd (i := .aload_n 0) (n := 1) (by decide +kernel)) rfl rfl <|
  bb_geti (k := 292) (ci := 9) (j := 19) (idx := 233) (zd (i := .getfield 233) (n := 3) (by decide +kernel)) (by decide +kernel) (by decide +kernel) (by decide +kernel) (by decide +kernel) rfl g1147 <|
  bb_lift (fun _ => q_iald (k := 304) (zd (i := .iaload) (n := 1) (by decide +kernel)) (by decide +kernel) (by decide +kernel) h1) <|
  bb_lift (fun _ => q_iadd (zd (i := .iadd) (n := 1) (by decide +kernel))) <|
  bb_aload_n (n := 0) (i := 0) (zd (i := .aload_n 0) (n := 1) (by decide +kernel)) rfl rfl <|
  bb_lift (fun _ => q_iconst (n := 0) (zd (i := .iconst (0)) (n := 1) (by decide +kernel)) rfl) <|
  bb_lift (fun _ => q_bipush (n := 19) (zd (i := .bipush (19)) (n := 2) (by decide +kernel)) rfl) <|
  bb_callVI (idx := 254) (k := 292) (ci := 9) (N := n_X9_bounded) (As := [.int 0, .int 19]) (st := [.int ((6 * (I 292 19)) + (I 304 (I 292 19).toNatClampNeg)), .ref 305]) (zd (i := .invokevirtual 254) (n := 3) (by decide +kernel)) to_X9_bounded g1394 g1396 g57 (Nat.le_of_ble_eq_true rfl) (by decide +kernel) (by decide +kernel) (by decide +kernel) rfl rfl rfl hc kk
theorem w_X9_tellOne_238 {Q : qQ} {I : qMI} {L : qML} {R : qMR} (hR : wkR R) {a1 : Int32} {s1 : Int32} {s2 : Int32} (h1 : vp_in s1 12) (h2 : vp_in ((qUp I 305 s1.toNatClampNeg s2) 292 19) 2) {P : Int32 → qMI → qML → Prop} (hc : wkI l G d n_X9_bounded [.ref 292, .int 0, .int 999] (qUp I 305 s1.toNatClampNeg s2) L R P) (kk : ∀ y I' L', P y I' L' → wkB l G (d + 1) n_X9_tellOne Q 268 [.ref 292, .int a1] [.int y, .int ((6 * ((qUp I 305 s1.toNatClampNeg s2) 292 19)) + ((qUp I 305 s1.toNatClampNeg s2) 304 ((qUp I 305 s1.toNatClampNeg s2) 292 19).toNatClampNeg)), .ref 306] I' L' R) : wkB l G (d + 1) n_X9_tellOne Q 238 [.ref 292, .int a1] [.int s2, .int s1, .ref 305] I L R :=
  bb_lift (fun _ => q_iast (k := 305) (zd (i := .iastore) (n := 1) (by decide +kernel)) (by decide +kernel) (by decide +kernel) h1) <|
  bb_aload_n (n := 0) (i := 0) (zd (i := .aload_n 0) (n := 1) (by decide +kernel)) rfl rfl <|
  bb_getr (k := 292) (ci := 9) (j := 27) (idx := 58) (a := 306) (zd (i := .getfield 58) (n := 3) (by decide +kernel)) (by decide +kernel) (by decide +kernel) (by decide +kernel) (by decide +kernel) rfl g1155 (hR 27 (by decide)) <|
  bb_lift (fun _ => q_bipush (n := 6) (zd (i := .bipush (6)) (n := 2) (by decide +kernel)) rfl) <|
  bb_aload_n (n := 0) (i := 0) (zd (i := .aload_n 0) (n := 1) (by decide +kernel)) rfl rfl <|
  bb_geti (k := 292) (ci := 9) (j := 19) (idx := 233) (zd (i := .getfield 233) (n := 3) (by decide +kernel)) (by decide +kernel) (by decide +kernel) (by decide +kernel) (by decide +kernel) rfl g1147 <|
  bb_lift (fun _ => q_imul (zd (i := .imul) (n := 1) (by decide +kernel))) <|
  bb_aload_n (n := 0) (i := 0) (zd (i := .aload_n 0) (n := 1) (by decide +kernel)) rfl rfl <|
  bb_getr (k := 292) (ci := 9) (j := 25) (idx := 52) (a := 304) (zd (i := .getfield 52) (n := 3) (by decide +kernel)) (by decide +kernel) (by decide +kernel) (by decide +kernel) (by decide +kernel) rfl g1153 (hR 25 (by decide)) <|
  bb_aload_n (n := 0) (i := 0) (zd (i := .aload_n 0) (n := 1) (by decide +kernel)) rfl rfl <|
  bb_geti (k := 292) (ci := 9) (j := 19) (idx := 233) (zd (i := .getfield 233) (n := 3) (by decide +kernel)) (by decide +kernel) (by decide +kernel) (by decide +kernel) (by decide +kernel) rfl g1147 <|
  bb_lift (fun _ => q_iald (k := 304) (zd (i := .iaload) (n := 1) (by decide +kernel)) (by decide +kernel) (by decide +kernel) h2) <|
  bb_lift (fun _ => q_iadd (zd (i := .iadd) (n := 1) (by decide +kernel))) <|
  bb_aload_n (n := 0) (i := 0) (zd (i := .aload_n 0) (n := 1) (by decide +kernel)) rfl rfl <|
  bb_lift (fun _ => q_iconst (n := 0) (zd (i := .iconst (0)) (n := 1) (by decide +kernel)) rfl) <|
  bb_lift (fun _ => q_sipush (n := 999) (zd (i := .sipush (999)) (n := 3) (by decide +kernel)) rfl) <|
  bb_callVI (idx := 254) (k := 292) (ci := 9) (N := n_X9_bounded) (As := [.int 0, .int 999]) (st := [.int ((6 * ((qUp I 305 s1.toNatClampNeg s2) 292 19)) + ((qUp I 305 s1.toNatClampNeg s2) 304 ((qUp I 305 s1.toNatClampNeg s2) 292 19).toNatClampNeg)), .ref 306]) (zd (i := .invokevirtual 254) (n := 3) (by decide +kernel)) to_X9_bounded g1394 g1396 g57 (Nat.le_of_ble_eq_true rfl) (by decide +kernel) (by decide +kernel) (by decide +kernel) rfl rfl rfl hc kk
theorem w_X9_tellOne_268 {Q : qQ} {I : qMI} {L : qML} {R : qMR} {a1 : Int32} {s1 : Int32} {s2 : Int32} (h1 : vp_in s1 12) {P : qMI → qML → Prop} (hc : wkV l G d n_X9_ends [.ref 292, .int a1] (qUp I 306 s1.toNatClampNeg s2) L R P) (kk : ∀ I' L', P I' L' → wkB l G (d + 1) n_X9_tellOne Q 274 [.ref 292, .int a1] [] I' L' R) : wkB l G (d + 1) n_X9_tellOne Q 268 [.ref 292, .int a1] [.int s2, .int s1, .ref 306] I L R :=
  bb_lift (fun _ => q_iast (k := 306) (zd (i := .iastore) (n := 1) (by decide +kernel)) (by decide +kernel) (by decide +kernel) h1) <|
  bb_aload_n (n := 0) (i := 0) (zd (i := .aload_n 0) (n := 1) (by decide +kernel)) rfl rfl <|
  bb_iload_n (n := 1) (i := 1) (zd (i := .iload_n 1) (n := 1) (by decide +kernel)) rfl rfl <|
  bb_callVV (idx := 269) (k := 292) (ci := 9) (N := n_X9_ends) (As := [.int a1]) (st := []) (zd (i := .invokevirtual 269) (n := 3) (by decide +kernel)) to_X9_ends g1398 g1400 g58 (Nat.le_of_ble_eq_true rfl) (by decide +kernel) (by decide +kernel) (by decide +kernel) rfl rfl rfl hc kk
theorem w_X9_tellOne_274 {Q : qQ} {I : qMI} {L : qML} {R : qMR} {a1 : Int32} (kt : ¬ (I 292 13) = 0 → wkB l G (d + 1) n_X9_tellOne Q 427 [.ref 292, wkU] [] I L R) (kf : (I 292 13) = 0 → wkB l G (d + 1) n_X9_tellOne Q 281 [.ref 292, .int a1] [] I L R) : wkB l G (d + 1) n_X9_tellOne Q 274 [.ref 292, .int a1] [] I L R :=
  bb_aload_n (n := 0) (i := 0) (zd (i := .aload_n 0) (n := 1) (by decide +kernel)) rfl rfl <|
  bb_geti (k := 292) (ci := 9) (j := 13) (idx := 200) (zd (i := .getfield 200) (n := 3) (by decide +kernel)) (by decide +kernel) (by decide +kernel) (by decide +kernel) (by decide +kernel) rfl g1141 <|
  (fun lv hl => q_if_ne (off := 149) (tgt := 427) (zd (i := .ifCond .ne (149)) (n := 3) (by decide +kernel)) (by decide) (fun h => ((wkB_le (vs := [.ref 292, wkU]) (ws := [.ref 292, .int a1]) ⟨Or.inr rfl, Or.inl rfl, trivial⟩ (kt h))) lv hl) (fun h => (kf h) lv hl))
theorem w_X9_tellOne_281 {Q : qQ} {I : qMI} {L : qML} {R : qMR} (hR : wkR R) {a1 : Int32} (h1 : vp_in (I 292 19) 2) (h2 : vp_in (I 292 19) 2) (k : wkB l G (d + 1) n_X9_tellOne Q 427 [.ref 292, wkU] [] (qUp I 304 (I 292 19).toNatClampNeg ((I 304 (I 292 19).toNatClampNeg) + 1)) L R) : wkB l G (d + 1) n_X9_tellOne Q 281 [.ref 292, .int a1] [] I L R :=
  bb_aload_n (n := 0) (i := 0) (zd (i := .aload_n 0) (n := 1) (by decide +kernel)) rfl rfl <|
  bb_getr (k := 292) (ci := 9) (j := 25) (idx := 52) (a := 304) (zd (i := .getfield 52) (n := 3) (by decide +kernel)) (by decide +kernel) (by decide +kernel) (by decide +kernel) (by decide +kernel) rfl g1153 (hR 25 (by decide)) <|
  bb_aload_n (n := 0) (i := 0) (zd (i := .aload_n 0) (n := 1) (by decide +kernel)) rfl rfl <|
  bb_geti (k := 292) (ci := 9) (j := 19) (idx := 233) (zd (i := .getfield 233) (n := 3) (by decide +kernel)) (by decide +kernel) (by decide +kernel) (by decide +kernel) (by decide +kernel) rfl g1147 <|
  bb_lift (fun _ => q_dup2 (zd (i := .dup2) (n := 1) (by decide +kernel)) rfl rfl) <|
  bb_lift (fun _ => q_iald (k := 304) (zd (i := .iaload) (n := 1) (by decide +kernel)) (by decide +kernel) (by decide +kernel) h1) <|
  bb_lift (fun _ => q_iconst (n := 1) (zd (i := .iconst (1)) (n := 1) (by decide +kernel)) rfl) <|
  bb_lift (fun _ => q_iadd (zd (i := .iadd) (n := 1) (by decide +kernel))) <|
  bb_lift (fun _ => q_iast (k := 304) (zd (i := .iastore) (n := 1) (by decide +kernel)) (by decide +kernel) (by decide +kernel) h2) <|
  bb_lift (fun _ => q_goto (off := 133) (tgt := 427) (zd (i := .goto (133)) (n := 3) (by decide +kernel)) (by decide)) (wkB_le (vs := [.ref 292, wkU]) (ws := [.ref 292, .int a1]) ⟨Or.inr rfl, Or.inl rfl, trivial⟩ (k))
theorem w_X9_tellOne_297 {Q : qQ} {I : qMI} {L : qML} {R : qMR} (hR : wkR R)  {P : Int32 → qMI → qML → Prop} (hc : wkI l G d n_X9_toldInt [.ref 292, .int 1, .int 99] I L R P) (kk : ∀ y I' L', P y I' L' → wkB l G (d + 1) n_X9_tellOne Q 312 [.ref 292, wkU] [.int y, .int (I 292 19), .ref 307] I' L' R) : wkB l G (d + 1) n_X9_tellOne Q 297 [.ref 292, wkU] [] I L R :=
  bb_aload_n (n := 0) (i := 0) (zd (i := .aload_n 0) (n := 1) (by decide +kernel)) rfl rfl <|
  bb_getr (k := 292) (ci := 9) (j := 28) (idx := 61) (a := 307) (zd (i := .getfield 61) (n := 3) (by decide +kernel)) (by decide +kernel) (by decide +kernel) (by decide +kernel) (by decide +kernel) rfl g1156 (hR 28 (by decide)) <|
  bb_aload_n (n := 0) (i := 0) (zd (i := .aload_n 0) (n := 1) (by decide +kernel)) rfl rfl <|
  bb_geti (k := 292) (ci := 9) (j := 19) (idx := 233) (zd (i := .getfield 233) (n := 3) (by decide +kernel)) (by decide +kernel) (by decide +kernel) (by decide +kernel) (by decide +kernel) rfl g1147 <|
  bb_aload_n (n := 0) (i := 0) (zd (i := .aload_n 0) (n := 1) (by decide +kernel)) rfl rfl <|
  bb_lift (fun _ => q_iconst (n := 1) (zd (i := .iconst (1)) (n := 1) (by decide +kernel)) rfl) <|
  bb_lift (fun _ => q_bipush (n := 99) (zd (i := .bipush (99)) (n := 2) (by decide +kernel)) rfl) <|
  bb_callVI (idx := 272) (k := 292) (ci := 9) (N := n_X9_toldInt) (As := [.int 1, .int 99]) (st := [.int (I 292 19), .ref 307]) (zd (i := .invokevirtual 272) (n := 3) (by decide +kernel)) to_X9_toldInt g1402 g1404 g59 (Nat.le_of_ble_eq_true rfl) (by decide +kernel) (by decide +kernel) (by decide +kernel) rfl rfl rfl hc kk
theorem w_X9_tellOne_312 {Q : qQ} {I : qMI} {L : qML} {R : qMR} {s1 : Int32} {s2 : Int32} (h1 : vp_in s1 2) (k : wkB l G (d + 1) n_X9_tellOne Q 427 [.ref 292, wkU] [] (qUp I 307 s1.toNatClampNeg s2) L R) : wkB l G (d + 1) n_X9_tellOne Q 312 [.ref 292, wkU] [.int s2, .int s1, .ref 307] I L R :=
  bb_lift (fun _ => q_iast (k := 307) (zd (i := .iastore) (n := 1) (by decide +kernel)) (by decide +kernel) (by decide +kernel) h1) <|
  bb_lift (fun _ => q_goto (off := 114) (tgt := 427) (zd (i := .goto (114)) (n := 3) (by decide +kernel)) (by decide)) k
theorem w_X9_tellOne_316 {Q : qQ} {I : qMI} {L : qML} {R : qMR} (hR : wkR R)  {P : Int32 → qMI → qML → Prop} (hc : wkI l G d n_X9_toldInt [.ref 292, .int 0, .int 100] I L R P) (kk : ∀ y I' L', P y I' L' → wkB l G (d + 1) n_X9_tellOne Q 331 [.ref 292, wkU] [.int y, .int (I 292 19), .ref 308] I' L' R) : wkB l G (d + 1) n_X9_tellOne Q 316 [.ref 292, wkU] [] I L R :=
  bb_aload_n (n := 0) (i := 0) (zd (i := .aload_n 0) (n := 1) (by decide +kernel)) rfl rfl <|
  bb_getr (k := 292) (ci := 9) (j := 29) (idx := 64) (a := 308) (zd (i := .getfield 64) (n := 3) (by decide +kernel)) (by decide +kernel) (by decide +kernel) (by decide +kernel) (by decide +kernel) rfl g1157 (hR 29 (by decide)) <|
  bb_aload_n (n := 0) (i := 0) (zd (i := .aload_n 0) (n := 1) (by decide +kernel)) rfl rfl <|
  bb_geti (k := 292) (ci := 9) (j := 19) (idx := 233) (zd (i := .getfield 233) (n := 3) (by decide +kernel)) (by decide +kernel) (by decide +kernel) (by decide +kernel) (by decide +kernel) rfl g1147 <|
  bb_aload_n (n := 0) (i := 0) (zd (i := .aload_n 0) (n := 1) (by decide +kernel)) rfl rfl <|
  bb_lift (fun _ => q_iconst (n := 0) (zd (i := .iconst (0)) (n := 1) (by decide +kernel)) rfl) <|
  bb_lift (fun _ => q_bipush (n := 100) (zd (i := .bipush (100)) (n := 2) (by decide +kernel)) rfl) <|
  bb_callVI (idx := 272) (k := 292) (ci := 9) (N := n_X9_toldInt) (As := [.int 0, .int 100]) (st := [.int (I 292 19), .ref 308]) (zd (i := .invokevirtual 272) (n := 3) (by decide +kernel)) to_X9_toldInt g1402 g1404 g59 (Nat.le_of_ble_eq_true rfl) (by decide +kernel) (by decide +kernel) (by decide +kernel) rfl rfl rfl hc kk
theorem w_X9_tellOne_331 {Q : qQ} {I : qMI} {L : qML} {R : qMR} {s1 : Int32} {s2 : Int32} (h1 : vp_in s1 2) (k : wkB l G (d + 1) n_X9_tellOne Q 427 [.ref 292, wkU] [] (qUp I 308 s1.toNatClampNeg s2) L R) : wkB l G (d + 1) n_X9_tellOne Q 331 [.ref 292, wkU] [.int s2, .int s1, .ref 308] I L R :=
  bb_lift (fun _ => q_iast (k := 308) (zd (i := .iastore) (n := 1) (by decide +kernel)) (by decide +kernel) (by decide +kernel) h1) <|
  bb_lift (fun _ => q_goto (off := 95) (tgt := 427) (zd (i := .goto (95)) (n := 3) (by decide +kernel)) (by decide)) k
theorem w_X9_tellOne_335 {Q : qQ} {I : qMI} {L : qML} {R : qMR} (hR : wkR R)  {P : Int32 → qMI → qML → Prop} (hc : wkI l G d n_X9_toldInt [.ref 292, .int 0, .int 23] I L R P) (kk : ∀ y I' L', P y I' L' → wkB l G (d + 1) n_X9_tellOne Q 350 [.ref 292, wkU] [.int y, .int (I 292 19), .ref 309] I' L' R) : wkB l G (d + 1) n_X9_tellOne Q 335 [.ref 292, wkU] [] I L R :=
  bb_aload_n (n := 0) (i := 0) (zd (i := .aload_n 0) (n := 1) (by decide +kernel)) rfl rfl <|
  bb_getr (k := 292) (ci := 9) (j := 30) (idx := 67) (a := 309) (zd (i := .getfield 67) (n := 3) (by decide +kernel)) (by decide +kernel) (by decide +kernel) (by decide +kernel) (by decide +kernel) rfl g1158 (hR 30 (by decide)) <|
  bb_aload_n (n := 0) (i := 0) (zd (i := .aload_n 0) (n := 1) (by decide +kernel)) rfl rfl <|
  bb_geti (k := 292) (ci := 9) (j := 19) (idx := 233) (zd (i := .getfield 233) (n := 3) (by decide +kernel)) (by decide +kernel) (by decide +kernel) (by decide +kernel) (by decide +kernel) rfl g1147 <|
  bb_aload_n (n := 0) (i := 0) (zd (i := .aload_n 0) (n := 1) (by decide +kernel)) rfl rfl <|
  bb_lift (fun _ => q_iconst (n := 0) (zd (i := .iconst (0)) (n := 1) (by decide +kernel)) rfl) <|
  bb_lift (fun _ => q_bipush (n := 23) (zd (i := .bipush (23)) (n := 2) (by decide +kernel)) rfl) <|
  bb_callVI (idx := 272) (k := 292) (ci := 9) (N := n_X9_toldInt) (As := [.int 0, .int 23]) (st := [.int (I 292 19), .ref 309]) (zd (i := .invokevirtual 272) (n := 3) (by decide +kernel)) to_X9_toldInt g1402 g1404 g59 (Nat.le_of_ble_eq_true rfl) (by decide +kernel) (by decide +kernel) (by decide +kernel) rfl rfl rfl hc kk
theorem w_X9_tellOne_350 {Q : qQ} {I : qMI} {L : qML} {R : qMR} {s1 : Int32} {s2 : Int32} (h1 : vp_in s1 2) (k : wkB l G (d + 1) n_X9_tellOne Q 427 [.ref 292, wkU] [] (qUp I 309 s1.toNatClampNeg s2) L R) : wkB l G (d + 1) n_X9_tellOne Q 350 [.ref 292, wkU] [.int s2, .int s1, .ref 309] I L R :=
  bb_lift (fun _ => q_iast (k := 309) (zd (i := .iastore) (n := 1) (by decide +kernel)) (by decide +kernel) (by decide +kernel) h1) <|
  bb_lift (fun _ => q_goto (off := 76) (tgt := 427) (zd (i := .goto (76)) (n := 3) (by decide +kernel)) (by decide)) k
theorem w_X9_tellOne_354 {Q : qQ} {I : qMI} {L : qML} {R : qMR} (hR : wkR R)  {P : Int32 → qMI → qML → Prop} (hc : wkI l G d n_X9_toldInt [.ref 292, .int 0, .int 9999] I L R P) (kk : ∀ y I' L', P y I' L' → wkB l G (d + 1) n_X9_tellOne Q 370 [.ref 292, wkU] [.int y, .int (I 292 19), .ref 310] I' L' R) : wkB l G (d + 1) n_X9_tellOne Q 354 [.ref 292, wkU] [] I L R :=
  bb_aload_n (n := 0) (i := 0) (zd (i := .aload_n 0) (n := 1) (by decide +kernel)) rfl rfl <|
  bb_getr (k := 292) (ci := 9) (j := 31) (idx := 70) (a := 310) (zd (i := .getfield 70) (n := 3) (by decide +kernel)) (by decide +kernel) (by decide +kernel) (by decide +kernel) (by decide +kernel) rfl g1159 (hR 31 (by decide)) <|
  bb_aload_n (n := 0) (i := 0) (zd (i := .aload_n 0) (n := 1) (by decide +kernel)) rfl rfl <|
  bb_geti (k := 292) (ci := 9) (j := 19) (idx := 233) (zd (i := .getfield 233) (n := 3) (by decide +kernel)) (by decide +kernel) (by decide +kernel) (by decide +kernel) (by decide +kernel) rfl g1147 <|
  bb_aload_n (n := 0) (i := 0) (zd (i := .aload_n 0) (n := 1) (by decide +kernel)) rfl rfl <|
  bb_lift (fun _ => q_iconst (n := 0) (zd (i := .iconst (0)) (n := 1) (by decide +kernel)) rfl) <|
  bb_lift (fun _ => q_sipush (n := 9999) (zd (i := .sipush (9999)) (n := 3) (by decide +kernel)) rfl) <|
  bb_callVI (idx := 272) (k := 292) (ci := 9) (N := n_X9_toldInt) (As := [.int 0, .int 9999]) (st := [.int (I 292 19), .ref 310]) (zd (i := .invokevirtual 272) (n := 3) (by decide +kernel)) to_X9_toldInt g1402 g1404 g59 (Nat.le_of_ble_eq_true rfl) (by decide +kernel) (by decide +kernel) (by decide +kernel) rfl rfl rfl hc kk
theorem w_X9_tellOne_370 {Q : qQ} {I : qMI} {L : qML} {R : qMR} {s1 : Int32} {s2 : Int32} (h1 : vp_in s1 2) (k : wkB l G (d + 1) n_X9_tellOne Q 427 [.ref 292, wkU] [] (qUp I 310 s1.toNatClampNeg s2) L R) : wkB l G (d + 1) n_X9_tellOne Q 370 [.ref 292, wkU] [.int s2, .int s1, .ref 310] I L R :=
  bb_lift (fun _ => q_iast (k := 310) (zd (i := .iastore) (n := 1) (by decide +kernel)) (by decide +kernel) (by decide +kernel) h1) <|
  bb_lift (fun _ => q_goto (off := 56) (tgt := 427) (zd (i := .goto (56)) (n := 3) (by decide +kernel)) (by decide)) k
theorem w_X9_tellOne_374 {Q : qQ} {I : qMI} {L : qML} {R : qMR} (hR : wkR R)  (h1 : vp_in (I 292 11) 403) (kt : ((I 295 (I 292 11).toNatClampNeg) - 22) < 0 → wkB l G (d + 1) n_X9_tellOne Q 405 [.ref 292, .int ((I 295 (I 292 11).toNatClampNeg) - 22)] [] I L R) (kf : ¬ ((I 295 (I 292 11).toNatClampNeg) - 22) < 0 → wkB l G (d + 1) n_X9_tellOne Q 391 [.ref 292, .int ((I 295 (I 292 11).toNatClampNeg) - 22)] [] I L R) : wkB l G (d + 1) n_X9_tellOne Q 374 [.ref 292, wkU] [] I L R :=
  bb_aload_n (n := 0) (i := 0) (zd (i := .aload_n 0) (n := 1) (by decide +kernel)) rfl rfl <|
  bb_getr (k := 292) (ci := 9) (j := 5) (idx := 20) (a := 295) (zd (i := .getfield 20) (n := 3) (by decide +kernel)) (by decide +kernel) (by decide +kernel) (by decide +kernel) (by decide +kernel) rfl g1133 (hR 5 (by decide)) <|
  bb_aload_n (n := 0) (i := 0) (zd (i := .aload_n 0) (n := 1) (by decide +kernel)) rfl rfl <|
  bb_geti (k := 292) (ci := 9) (j := 11) (idx := 203) (zd (i := .getfield 203) (n := 3) (by decide +kernel)) (by decide +kernel) (by decide +kernel) (by decide +kernel) (by decide +kernel) rfl g1139 <|
  bb_lift (fun _ => q_iald (k := 295) (zd (i := .iaload) (n := 1) (by decide +kernel)) (by decide +kernel) (by decide +kernel) h1) <|
  bb_lift (fun _ => q_bipush (n := 22) (zd (i := .bipush (22)) (n := 2) (by decide +kernel)) rfl) <|
  bb_lift (fun _ => q_isub (zd (i := .isub) (n := 1) (by decide +kernel))) <|
  bb_istore_n (n := 1) (i := 1) (zd (i := .istore_n 1) (n := 1) (by decide +kernel)) rfl (by decide +kernel) (wkNl_r rfl) <|
  bb_iload_n (n := 1) (i := 1) (zd (i := .iload_n 1) (n := 1) (by decide +kernel)) rfl rfl <|
  (fun lv hl => q_if_lt (off := 17) (tgt := 405) (zd (i := .ifCond .lt (17)) (n := 3) (by decide +kernel)) (by decide) (fun h => (kt h) lv hl) (fun h => (kf h) lv hl))
theorem w_X9_tellOne_391 {Q : qQ} {I : qMI} {L : qML} {R : qMR} (hR : wkR R) {a1 : Int32} (h1 : vp_in (I 292 11) 403) (kt : (I 295 (I 292 11).toNatClampNeg) ≤ 26 → wkB l G (d + 1) n_X9_tellOne Q 410 [.ref 292, .int a1] [] I L R) (kf : ¬ (I 295 (I 292 11).toNatClampNeg) ≤ 26 → wkB l G (d + 1) n_X9_tellOne Q 405 [.ref 292, .int a1] [] I L R) : wkB l G (d + 1) n_X9_tellOne Q 391 [.ref 292, .int a1] [] I L R :=
  bb_aload_n (n := 0) (i := 0) (zd (i := .aload_n 0) (n := 1) (by decide +kernel)) rfl rfl <|
  bb_getr (k := 292) (ci := 9) (j := 5) (idx := 20) (a := 295) (zd (i := .getfield 20) (n := 3) (by decide +kernel)) (by decide +kernel) (by decide +kernel) (by decide +kernel) (by decide +kernel) rfl g1133 (hR 5 (by decide)) <|
  bb_aload_n (n := 0) (i := 0) (zd (i := .aload_n 0) (n := 1) (by decide +kernel)) rfl rfl <|
  bb_geti (k := 292) (ci := 9) (j := 11) (idx := 203) (zd (i := .getfield 203) (n := 3) (by decide +kernel)) (by decide +kernel) (by decide +kernel) (by decide +kernel) (by decide +kernel) rfl g1139 <|
  bb_lift (fun _ => q_iald (k := 295) (zd (i := .iaload) (n := 1) (by decide +kernel)) (by decide +kernel) (by decide +kernel) h1) <|
  bb_lift (fun _ => q_bipush (n := 26) (zd (i := .bipush (26)) (n := 2) (by decide +kernel)) rfl) <|
  (fun lv hl => q_icmp_le (off := 8) (tgt := 410) (zd (i := .if_icmp .le (8)) (n := 3) (by decide +kernel)) (by decide) (fun h => (kt h) lv hl) (fun h => (kf h) lv hl))
theorem w_X9_tellOne_405 {Q : qQ} {I : qMI} {L : qML} {R : qMR} {a1 : Int32} {P : qMI → qML → Prop} (hc : wkV l G d n_X9_fail [.ref 292, .int 1] I L R P) (kk : ∀ I' L', P I' L' → wkB l G (d + 1) n_X9_tellOne Q 410 [.ref 292, .int a1] [] I' L' R) : wkB l G (d + 1) n_X9_tellOne Q 405 [.ref 292, .int a1] [] I L R :=
  bb_aload_n (n := 0) (i := 0) (zd (i := .aload_n 0) (n := 1) (by decide +kernel)) rfl rfl <|
  bb_lift (fun _ => q_iconst (n := 1) (zd (i := .iconst (1)) (n := 1) (by decide +kernel)) rfl) <|
  bb_callVV (idx := 215) (k := 292) (ci := 9) (N := n_X9_fail) (As := [.int 1]) (st := []) (zd (i := .invokevirtual 215) (n := 3) (by decide +kernel)) to_X9_fail g1374 g1376 g52 (Nat.le_of_ble_eq_true rfl) (by decide +kernel) (by decide +kernel) (by decide +kernel) rfl rfl rfl hc kk
theorem w_X9_tellOne_410 {Q : qQ} {I : qMI} {L : qML} {R : qMR} {a1 : Int32} (kt : (I 292 13) ≤ 0 → wkB l G (d + 1) n_X9_tellOne Q 418 [.ref 292, .int a1] [] I L R) (kf : ¬ (I 292 13) ≤ 0 → wkB l G (d + 1) n_X9_tellOne Q 417 [.ref 292, .int a1] [] I L R) : wkB l G (d + 1) n_X9_tellOne Q 410 [.ref 292, .int a1] [] I L R :=
  bb_aload_n (n := 0) (i := 0) (zd (i := .aload_n 0) (n := 1) (by decide +kernel)) rfl rfl <|
  bb_geti (k := 292) (ci := 9) (j := 13) (idx := 200) (zd (i := .getfield 200) (n := 3) (by decide +kernel)) (by decide +kernel) (by decide +kernel) (by decide +kernel) (by decide +kernel) rfl g1141 <|
  (fun lv hl => q_if_le (off := 4) (tgt := 418) (zd (i := .ifCond .le (4)) (n := 3) (by decide +kernel)) (by decide) (fun h => (kt h) lv hl) (fun h => (kf h) lv hl))
theorem w_X9_tellOne_417 {Q : qQ} {I : qMI} {L : qML} {R : qMR} {a1 : Int32} (hQ : Q none 336 I L R) : wkB l G (d + 1) n_X9_tellOne Q 417 [.ref 292, .int a1] [] I L R :=
  (fun lv hl => q_vret (zd (i := .return_) (n := 1) (by decide +kernel)) rfl (Nat.le_refl _) (Nat.le_refl _) hQ)
theorem w_X9_tellOne_418 {Q : qQ} {I : qMI} {L : qML} {R : qMR} {a1 : Int32} {P : qMI → qML → Prop} (hc : wkV l G d n_X9_goesOn [.ref 292] I L R P) (kk : ∀ I' L', P I' L' → wkB l G (d + 1) n_X9_tellOne Q 422 [.ref 292, .int a1] [] I' L' R) : wkB l G (d + 1) n_X9_tellOne Q 418 [.ref 292, .int a1] [] I L R :=
  bb_aload_n (n := 0) (i := 0) (zd (i := .aload_n 0) (n := 1) (by decide +kernel)) rfl rfl <|
  bb_callVV (idx := 221) (k := 292) (ci := 9) (N := n_X9_goesOn) (As := []) (st := []) (zd (i := .invokevirtual 221) (n := 3) (by decide +kernel)) to_X9_goesOn g1378 g1380 g53 (Nat.le_of_ble_eq_true rfl) (by decide +kernel) (by decide +kernel) (by decide +kernel) rfl rfl rfl hc kk
theorem w_X9_tellOne_422 {Q : qQ} {I : qMI} {L : qML} {R : qMR} {a1 : Int32} {P : qMI → qML → Prop} (hc : wkV l G d n_X9_tellLaw [.ref 292, .int a1] I L R P) (kk : ∀ I' L', P I' L' → wkB l G (d + 1) n_X9_tellOne Q 427 [.ref 292, .int a1] [] I' L' R) : wkB l G (d + 1) n_X9_tellOne Q 422 [.ref 292, .int a1] [] I L R :=
  bb_aload_n (n := 0) (i := 0) (zd (i := .aload_n 0) (n := 1) (by decide +kernel)) rfl rfl <|
  bb_iload_n (n := 1) (i := 1) (zd (i := .iload_n 1) (n := 1) (by decide +kernel)) rfl rfl <|
  bb_callVV (idx := 275) (k := 292) (ci := 9) (N := n_X9_tellLaw) (As := [.int a1]) (st := []) (zd (i := .invokevirtual 275) (n := 3) (by decide +kernel)) to_X9_tellLaw g1406 g1408 g60 (Nat.le_of_ble_eq_true rfl) (by decide +kernel) (by decide +kernel) (by decide +kernel) rfl rfl rfl hc kk
theorem w_X9_tellOne_427 {Q : qQ} {I : qMI} {L : qML} {R : qMR}  (hQ : Q none 336 I L R) : wkB l G (d + 1) n_X9_tellOne Q 427 [.ref 292, wkU] [] I L R :=
  (fun lv hl => q_vret (zd (i := .return_) (n := 1) (by decide +kernel)) rfl (Nat.le_refl _) (Nat.le_refl _) hQ)
end
