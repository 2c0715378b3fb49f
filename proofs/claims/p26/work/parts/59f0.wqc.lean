
section
variable {l : Launch} {G : qG} {d : Nat}
theorem w_X0_thingsSeenFrom_0 {Q : qQ} {I : qMI} {L : qML} {R : qMR} {o : Nat} (ho : o = 9 ∨ o = 259) {a1 : Int32} {a2 : Int32} {a3 : Int32} (k : wkB l G (d + 1) n_X0_thingsSeenFrom Q 6 [.ref o, .int a1, .int a2, .int a3, .int 0, .int 0] [] I L R) : wkB l G (d + 1) n_X0_thingsSeenFrom Q 0 [.ref o, .int a1, .int a2, .int a3, wkU, wkU] [] I L R :=
  bb_lift (fun _ => q_iconst (n := 0) (zd (i := .iconst (0)) (n := 1) (by decide +kernel)) rfl) <|
  bb_istore (i := 4) (zd (i := .istore 4) (n := 2) (by decide +kernel)) (by decide +kernel) (wkNl_i rfl) <|
  bb_lift (fun _ => q_iconst (n := 0) (zd (i := .iconst (0)) (n := 1) (by decide +kernel)) rfl) <|
  bb_istore (i := 5) (zd (i := .istore 5) (n := 2) (by decide +kernel)) (by decide +kernel) (wkNl_i rfl) <|
  k
theorem w_X0_thingsSeenFrom_6 {Q : qQ} {I : qMI} {L : qML} {R : qMR} {o : Nat} (ho : o = 9 ∨ o = 259) {a1 : Int32} {a2 : Int32} {a3 : Int32} {a4 : Int32} {a5 : Int32} (kt : (I o 2) ≤ a5 → wkB l G (d + 1) n_X0_thingsSeenFrom Q 42 [.ref o, .int a1, .int a2, .int a3, .int a4, .int a5] [] I L R) (kf : ¬ (I o 2) ≤ a5 → wkB l G (d + 1) n_X0_thingsSeenFrom Q 15 [.ref o, .int a1, .int a2, .int a3, .int a4, .int a5] [] I L R) : wkB l G (d + 1) n_X0_thingsSeenFrom Q 6 [.ref o, .int a1, .int a2, .int a3, .int a4, .int a5] [] I L R :=
  bb_iload (i := 5) (zd (i := .iload 5) (n := 2) (by decide +kernel)) rfl <|
  bb_aload_n (n := 0) (i := 0) (zd (i := .aload_n 0) (n := 1) (by decide +kernel)) rfl rfl <|
  bb_geti (k := o) (ci := 0) (j := 2) (idx := 19) (zd (i := .getfield 19) (n := 3) (by decide +kernel)) (by rcases ho with rfl | rfl <;> decide +kernel) (by rcases ho with rfl | rfl <;> decide +kernel) (by decide +kernel) (by decide +kernel) rfl g278 <|
  (fun lv hl => q_icmp_ge (off := 30) (tgt := 42) (zd (i := .if_icmp .ge (30)) (n := 3) (by decide +kernel)) (by decide) (fun h => (kt h) lv hl) (fun h => (kf h) lv hl))
theorem w_X0_thingsSeenFrom_15 {Q : qQ} {I : qMI} {L : qML} {R : qMR} {o : Nat} (ho : o = 9 ∨ o = 259) {a1 : Int32} {a2 : Int32} {a3 : Int32} {a4 : Int32} {a5 : Int32} {P : Int32 → qMI → qML → qMR → Prop} (hc : wkCi l G d n_X0_isSeenFrom [.ref o, .int a1, .int a5, .int a2, .int a3] I L R P) (kk : ∀ y I' L' R', P y I' L' R' → wkB l G (d + 1) n_X0_thingsSeenFrom Q 24 [.ref o, .int a1, .int a2, .int a3, .int a4, .int a5] [.int y] I' L' R') : wkB l G (d + 1) n_X0_thingsSeenFrom Q 15 [.ref o, .int a1, .int a2, .int a3, .int a4, .int a5] [] I L R :=
  bb_aload_n (n := 0) (i := 0) (zd (i := .aload_n 0) (n := 1) (by decide +kernel)) rfl rfl <|
  bb_iload_n (n := 1) (i := 1) (zd (i := .iload_n 1) (n := 1) (by decide +kernel)) rfl rfl <|
  bb_iload (i := 5) (zd (i := .iload 5) (n := 2) (by decide +kernel)) rfl <|
  bb_iload_n (n := 2) (i := 2) (zd (i := .iload_n 2) (n := 1) (by decide +kernel)) rfl rfl <|
  bb_iload_n (n := 3) (i := 3) (zd (i := .iload_n 3) (n := 1) (by decide +kernel)) rfl rfl <|
  bb_callV (idx := 83) (k := o) (ci := 0) (N := n_X0_isSeenFrom) (As := [.int a1, .int a5, .int a2, .int a3]) (st := []) (zd (i := .invokevirtual 83) (n := 3) (by decide +kernel)) to_X0_isSeenFrom g783 g746 g747 (Nat.le_of_ble_eq_true rfl) (by rcases ho with rfl | rfl <;> decide +kernel) (by rcases ho with rfl | rfl <;> decide +kernel) (by decide +kernel) rfl rfl rfl hc (fun r I' L' R' hq => by obtain ⟨y, rfl, hp⟩ := hq; exact kk y I' L' R' hp)
theorem w_X0_thingsSeenFrom_24 {Q : qQ} {I : qMI} {L : qML} {R : qMR} {o : Nat} (ho : o = 9 ∨ o = 259) {a1 : Int32} {a2 : Int32} {a3 : Int32} {a4 : Int32} {a5 : Int32} {s0 : Int32} (kt : s0 = 0 → wkB l G (d + 1) n_X0_thingsSeenFrom Q 36 [.ref o, .int a1, .int a2, .int a3, .int a4, .int a5] [] I L R) (kf : ¬ s0 = 0 → wkB l G (d + 1) n_X0_thingsSeenFrom Q 27 [.ref o, .int a1, .int a2, .int a3, .int a4, .int a5] [] I L R) : wkB l G (d + 1) n_X0_thingsSeenFrom Q 24 [.ref o, .int a1, .int a2, .int a3, .int a4, .int a5] [.int s0] I L R :=
  (fun lv hl => q_if_eq (off := 12) (tgt := 36) (zd (i := .ifCond .eq (12)) (n := 3) (by decide +kernel)) (by decide) (fun h => (kt h) lv hl) (fun h => (kf h) lv hl))
theorem w_X0_thingsSeenFrom_27 {Q : qQ} {I : qMI} {L : qML} {R : qMR} {o : Nat} (ho : o = 9 ∨ o = 259) {a1 : Int32} {a2 : Int32} {a3 : Int32} {a4 : Int32} {a5 : Int32} (k : wkB l G (d + 1) n_X0_thingsSeenFrom Q 36 [.ref o, .int a1, .int a2, .int a3, .int (a4 ||| (1 <<< (a5 &&& 31))), .int a5] [] I L R) : wkB l G (d + 1) n_X0_thingsSeenFrom Q 27 [.ref o, .int a1, .int a2, .int a3, .int a4, .int a5] [] I L R :=
  bb_iload (i := 4) (zd (i := .iload 4) (n := 2) (by decide +kernel)) rfl <|
  bb_lift (fun _ => q_iconst (n := 1) (zd (i := .iconst (1)) (n := 1) (by decide +kernel)) rfl) <|
  bb_iload (i := 5) (zd (i := .iload 5) (n := 2) (by decide +kernel)) rfl <|
  bb_lift (fun _ => q_ishl (zd (i := .ishl) (n := 1) (by decide +kernel))) <|
  bb_lift (fun _ => q_ior (zd (i := .ior) (n := 1) (by decide +kernel))) <|
  bb_istore (i := 4) (zd (i := .istore 4) (n := 2) (by decide +kernel)) (by decide +kernel) (wkNl_i rfl) <|
  k
theorem w_X0_thingsSeenFrom_36 {Q : qQ} {I : qMI} {L : qML} {R : qMR} {o : Nat} (ho : o = 9 ∨ o = 259) {a1 : Int32} {a2 : Int32} {a3 : Int32} {a4 : Int32} {a5 : Int32} (k : wkB l G (d + 1) n_X0_thingsSeenFrom Q 6 [.ref o, .int a1, .int a2, .int a3, .int a4, .int (a5 + 1)] [] I L R) : wkB l G (d + 1) n_X0_thingsSeenFrom Q 36 [.ref o, .int a1, .int a2, .int a3, .int a4, .int a5] [] I L R :=
  bb_iinc (i := 5) (n := 1) (zd (i := .iinc 5 (1)) (n := 3) (by decide +kernel)) rfl rfl (by decide +kernel) (wkNl_i rfl) <|
  bb_lift (fun _ => q_goto (off := -33) (tgt := 6) (zd (i := .goto (-33)) (n := 3) (by decide +kernel)) (by decide)) k
theorem w_X0_thingsSeenFrom_42 {Q : qQ} {I : qMI} {L : qML} {R : qMR} {o : Nat} (ho : o = 9 ∨ o = 259) {a1 : Int32} {a2 : Int32} {a3 : Int32} {a4 : Int32} {a5 : Int32} (hQ : Q (some (.int a4)) 336 I L R) : wkB l G (d + 1) n_X0_thingsSeenFrom Q 42 [.ref o, .int a1, .int a2, .int a3, .int a4, .int a5] [] I L R :=
  bb_iload (i := 4) (zd (i := .iload 4) (n := 2) (by decide +kernel)) rfl <|
  (fun lv hl => q_iret (zd (i := .ireturn) (n := 1) (by decide +kernel)) rfl rfl (Nat.le_refl _) (Nat.le_refl _) hQ)
theorem w_X0_spotFrom_0 {Q : qQ} {I : qMI} {L : qML} {R : qMR} {o : Nat} (ho : o = 9 ∨ o = 259) {a1 : Int32} {a2 : Int32} {a3 : Int32} {a4 : Int32} (h1 : R o 12 = some (o + 6)) (h2 : R o 3 = some (o + 2)) (h3 : vp_in a2 6) (h4 : R o 4 = some (o + 3)) (h5 : vp_in a2 6) {P : qMI → qML → qMR → Prop} (hc : wkCv l G d n_X2_aim [.ref (o + 6), .int a3, .int a4, .int a1, .int (I (o + 2) a2.toNatClampNeg), .int (I (o + 3) a2.toNatClampNeg)] I L R P) (kk : ∀ I' L' R', P I' L' R' → wkB l G (d + 1) n_X0_spotFrom Q 23 [.ref o, .int a1, .int a2, .int a3, .int a4] [] I' L' R') : wkB l G (d + 1) n_X0_spotFrom Q 0 [.ref o, .int a1, .int a2, .int a3, .int a4] [] I L R :=
  bb_aload_n (n := 0) (i := 0) (zd (i := .aload_n 0) (n := 1) (by decide +kernel)) rfl rfl <|
  bb_getr (k := o) (ci := 0) (j := 12) (idx := 53) (a := (o + 6)) (zd (i := .getfield 53) (n := 3) (by decide +kernel)) (by rcases ho with rfl | rfl <;> decide +kernel) (by rcases ho with rfl | rfl <;> decide +kernel) (by decide +kernel) (by decide +kernel) rfl g304 h1 <|
  bb_iload_n (n := 3) (i := 3) (zd (i := .iload_n 3) (n := 1) (by decide +kernel)) rfl rfl <|
  bb_iload (i := 4) (zd (i := .iload 4) (n := 2) (by decide +kernel)) rfl <|
  bb_iload_n (n := 1) (i := 1) (zd (i := .iload_n 1) (n := 1) (by decide +kernel)) rfl rfl <|
  bb_aload_n (n := 0) (i := 0) (zd (i := .aload_n 0) (n := 1) (by decide +kernel)) rfl rfl <|
  bb_getr (k := o) (ci := 0) (j := 3) (idx := 22) (a := (o + 2)) (zd (i := .getfield 22) (n := 3) (by decide +kernel)) (by rcases ho with rfl | rfl <;> decide +kernel) (by rcases ho with rfl | rfl <;> decide +kernel) (by decide +kernel) (by decide +kernel) rfl g281 h2 <|
  bb_iload_n (n := 2) (i := 2) (zd (i := .iload_n 2) (n := 1) (by decide +kernel)) rfl rfl <|
  bb_lift (fun _ => q_iald (k := (o + 2)) (zd (i := .iaload) (n := 1) (by decide +kernel)) (by rcases ho with rfl | rfl <;> decide +kernel) (by rcases ho with rfl | rfl <;> decide +kernel) (by have hz := h3; rcases ho with rfl | rfl <;> exact hz)) <|
  bb_aload_n (n := 0) (i := 0) (zd (i := .aload_n 0) (n := 1) (by decide +kernel)) rfl rfl <|
  bb_getr (k := o) (ci := 0) (j := 4) (idx := 26) (a := (o + 3)) (zd (i := .getfield 26) (n := 3) (by decide +kernel)) (by rcases ho with rfl | rfl <;> decide +kernel) (by rcases ho with rfl | rfl <;> decide +kernel) (by decide +kernel) (by decide +kernel) rfl g283 h4 <|
  bb_iload_n (n := 2) (i := 2) (zd (i := .iload_n 2) (n := 1) (by decide +kernel)) rfl rfl <|
  bb_lift (fun _ => q_iald (k := (o + 3)) (zd (i := .iaload) (n := 1) (by decide +kernel)) (by rcases ho with rfl | rfl <;> decide +kernel) (by rcases ho with rfl | rfl <;> decide +kernel) (by have hz := h5; rcases ho with rfl | rfl <;> exact hz)) <|
  bb_callV (idx := 65) (k := (o + 6)) (ci := 2) (N := n_X2_aim) (As := [.int a3, .int a4, .int a1, .int (I (o + 2) a2.toNatClampNeg), .int (I (o + 3) a2.toNatClampNeg)]) (st := []) (zd (i := .invokevirtual 65) (n := 3) (by decide +kernel)) to_X2_aim g749 g750 g751 (Nat.le_of_ble_eq_true rfl) (by rcases ho with rfl | rfl <;> decide +kernel) (by rcases ho with rfl | rfl <;> decide +kernel) (by decide +kernel) rfl rfl rfl hc (fun r I' L' R' hq => by obtain ⟨rfl, hp⟩ := hq; exact kk I' L' R' hp)
theorem w_X0_spotFrom_23 {Q : qQ} {I : qMI} {L : qML} {R : qMR} {o : Nat} (ho : o = 9 ∨ o = 259) {a1 : Int32} {a2 : Int32} {a3 : Int32} {a4 : Int32} (h1 : R o 12 = some (o + 6)) {P : Int32 → qMI → qML → qMR → Prop} (hc : wkCi l G d n_X2_spot [.ref (o + 6)] I L R P) (kk : ∀ y I' L' R', P y I' L' R' → wkB l G (d + 1) n_X0_spotFrom Q 30 [.ref o, .int a1, .int a2, .int a3, .int a4] [.int y] I' L' R') : wkB l G (d + 1) n_X0_spotFrom Q 23 [.ref o, .int a1, .int a2, .int a3, .int a4] [] I L R :=
  bb_aload_n (n := 0) (i := 0) (zd (i := .aload_n 0) (n := 1) (by decide +kernel)) rfl rfl <|
  bb_getr (k := o) (ci := 0) (j := 12) (idx := 53) (a := (o + 6)) (zd (i := .getfield 53) (n := 3) (by decide +kernel)) (by rcases ho with rfl | rfl <;> decide +kernel) (by rcases ho with rfl | rfl <;> decide +kernel) (by decide +kernel) (by decide +kernel) rfl g304 h1 <|
  bb_callV (idx := 73) (k := (o + 6)) (ci := 2) (N := n_X2_spot) (As := []) (st := []) (zd (i := .invokevirtual 73) (n := 3) (by decide +kernel)) to_X2_spot g905 g906 g907 (Nat.le_of_ble_eq_true rfl) (by rcases ho with rfl | rfl <;> decide +kernel) (by rcases ho with rfl | rfl <;> decide +kernel) (by decide +kernel) rfl rfl rfl hc (fun r I' L' R' hq => by obtain ⟨y, rfl, hp⟩ := hq; exact kk y I' L' R' hp)
theorem w_X0_spotFrom_30 {Q : qQ} {I : qMI} {L : qML} {R : qMR} {o : Nat} (ho : o = 9 ∨ o = 259) {a1 : Int32} {a2 : Int32} {a3 : Int32} {a4 : Int32} {s0 : Int32} (hQ : Q (some (.int s0)) 336 I L R) : wkB l G (d + 1) n_X0_spotFrom Q 30 [.ref o, .int a1, .int a2, .int a3, .int a4] [.int s0] I L R :=
  (fun lv hl => q_iret (zd (i := .ireturn) (n := 1) (by decide +kernel)) rfl rfl (Nat.le_refl _) (Nat.le_refl _) hQ)
theorem w_X0_movedFrom_0 {Q : qQ} {I : qMI} {L : qML} {R : qMR} {o : Nat} (ho : o = 9 ∨ o = 259) {a1 : Int32} {a2 : Int32} {a3 : Int32} {a4 : Int32} (h1 : R o 12 = some (o + 6)) (h2 : R o 3 = some (o + 2)) (h3 : vp_in a2 6) (h4 : R o 4 = some (o + 3)) (h5 : vp_in a2 6) {P : qMI → qML → qMR → Prop} (hc : wkCv l G d n_X2_aim [.ref (o + 6), .int a3, .int a4, .int a1, .int (I (o + 2) a2.toNatClampNeg), .int (I (o + 3) a2.toNatClampNeg)] I L R P) (kk : ∀ I' L' R', P I' L' R' → wkB l G (d + 1) n_X0_movedFrom Q 23 [.ref o, .int a1, .int a2, .int a3, .int a4] [] I' L' R') : wkB l G (d + 1) n_X0_movedFrom Q 0 [.ref o, .int a1, .int a2, .int a3, .int a4] [] I L R :=
  bb_aload_n (n := 0) (i := 0) (zd (i := .aload_n 0) (n := 1) (by decide +kernel)) rfl rfl <|
  bb_getr (k := o) (ci := 0) (j := 12) (idx := 53) (a := (o + 6)) (zd (i := .getfield 53) (n := 3) (by decide +kernel)) (by rcases ho with rfl | rfl <;> decide +kernel) (by rcases ho with rfl | rfl <;> decide +kernel) (by decide +kernel) (by decide +kernel) rfl g304 h1 <|
  bb_iload_n (n := 3) (i := 3) (zd (i := .iload_n 3) (n := 1) (by decide +kernel)) rfl rfl <|
  bb_iload (i := 4) (zd (i := .iload 4) (n := 2) (by decide +kernel)) rfl <|
  bb_iload_n (n := 1) (i := 1) (zd (i := .iload_n 1) (n := 1) (by decide +kernel)) rfl rfl <|
  bb_aload_n (n := 0) (i := 0) (zd (i := .aload_n 0) (n := 1) (by decide +kernel)) rfl rfl <|
  bb_getr (k := o) (ci := 0) (j := 3) (idx := 22) (a := (o + 2)) (zd (i := .getfield 22) (n := 3) (by decide +kernel)) (by rcases ho with rfl | rfl <;> decide +kernel) (by rcases ho with rfl | rfl <;> decide +kernel) (by decide +kernel) (by decide +kernel) rfl g281 h2 <|
  bb_iload_n (n := 2) (i := 2) (zd (i := .iload_n 2) (n := 1) (by decide +kernel)) rfl rfl <|
  bb_lift (fun _ => q_iald (k := (o + 2)) (zd (i := .iaload) (n := 1) (by decide +kernel)) (by rcases ho with rfl | rfl <;> decide +kernel) (by rcases ho with rfl | rfl <;> decide +kernel) (by have hz := h3; rcases ho with rfl | rfl <;> exact hz)) <|
  bb_aload_n (n := 0) (i := 0) (zd (i := .aload_n 0) (n := 1) (by decide +kernel)) rfl rfl <|
  bb_getr (k := o) (ci := 0) (j := 4) (idx := 26) (a := (o + 3)) (zd (i := .getfield 26) (n := 3) (by decide +kernel)) (by rcases ho with rfl | rfl <;> decide +kernel) (by rcases ho with rfl | rfl <;> decide +kernel) (by decide +kernel) (by decide +kernel) rfl g283 h4 <|
  bb_iload_n (n := 2) (i := 2) (zd (i := .iload_n 2) (n := 1) (by decide +kernel)) rfl rfl <|
  bb_lift (fun _ => q_iald (k := (o + 3)) (zd (i := .iaload) (n := 1) (by decide +kernel)) (by rcases ho with rfl | rfl <;> decide +kernel) (by rcases ho with rfl | rfl <;> decide +kernel) (by have hz := h5; rcases ho with rfl | rfl <;> exact hz)) <|
  bb_callV (idx := 65) (k := (o + 6)) (ci := 2) (N := n_X2_aim) (As := [.int a3, .int a4, .int a1, .int (I (o + 2) a2.toNatClampNeg), .int (I (o + 3) a2.toNatClampNeg)]) (st := []) (zd (i := .invokevirtual 65) (n := 3) (by decide +kernel)) to_X2_aim g749 g750 g751 (Nat.le_of_ble_eq_true rfl) (by rcases ho with rfl | rfl <;> decide +kernel) (by rcases ho with rfl | rfl <;> decide +kernel) (by decide +kernel) rfl rfl rfl hc (fun r I' L' R' hq => by obtain ⟨rfl, hp⟩ := hq; exact kk I' L' R' hp)
theorem w_X0_movedFrom_23 {Q : qQ} {I : qMI} {L : qML} {R : qMR} {o : Nat} (ho : o = 9 ∨ o = 259) {a1 : Int32} {a2 : Int32} {a3 : Int32} {a4 : Int32} (h1 : R o 12 = some (o + 6)) {P : Int32 → qMI → qML → qMR → Prop} (hc : wkCi l G d n_X2_moved [.ref (o + 6)] I L R P) (kk : ∀ y I' L' R', P y I' L' R' → wkB l G (d + 1) n_X0_movedFrom Q 30 [.ref o, .int a1, .int a2, .int a3, .int a4] [.int y] I' L' R') : wkB l G (d + 1) n_X0_movedFrom Q 23 [.ref o, .int a1, .int a2, .int a3, .int a4] [] I L R :=
  bb_aload_n (n := 0) (i := 0) (zd (i := .aload_n 0) (n := 1) (by decide +kernel)) rfl rfl <|
  bb_getr (k := o) (ci := 0) (j := 12) (idx := 53) (a := (o + 6)) (zd (i := .getfield 53) (n := 3) (by decide +kernel)) (by rcases ho with rfl | rfl <;> decide +kernel) (by rcases ho with rfl | rfl <;> decide +kernel) (by decide +kernel) (by decide +kernel) rfl g304 h1 <|
  bb_callV (idx := 77) (k := (o + 6)) (ci := 2) (N := n_X2_moved) (As := []) (st := []) (zd (i := .invokevirtual 77) (n := 3) (by decide +kernel)) to_X2_moved g812 g813 g814 (Nat.le_of_ble_eq_true rfl) (by rcases ho with rfl | rfl <;> decide +kernel) (by rcases ho with rfl | rfl <;> decide +kernel) (by decide +kernel) rfl rfl rfl hc (fun r I' L' R' hq => by obtain ⟨y, rfl, hp⟩ := hq; exact kk y I' L' R' hp)
theorem w_X0_movedFrom_30 {Q : qQ} {I : qMI} {L : qML} {R : qMR} {o : Nat} (ho : o = 9 ∨ o = 259) {a1 : Int32} {a2 : Int32} {a3 : Int32} {a4 : Int32} {s0 : Int32} (hQ : Q (some (.int s0)) 336 I L R) : wkB l G (d + 1) n_X0_movedFrom Q 30 [.ref o, .int a1, .int a2, .int a3, .int a4] [.int s0] I L R :=
  (fun lv hl => q_iret (zd (i := .ireturn) (n := 1) (by decide +kernel)) rfl rfl (Nat.le_refl _) (Nat.le_refl _) hQ)
theorem w_X0_rentFrom_0 {Q : qQ} {I : qMI} {L : qML} {R : qMR} {o : Nat} (ho : o = 9 ∨ o = 259) {a1 : Int32} {a2 : Int32} {a3 : Int32} {a4 : Int32} {a5 : Int32} (h1 : R o 12 = some (o + 6)) (h2 : R o 3 = some (o + 2)) (h3 : vp_in a2 6) (h4 : R o 4 = some (o + 3)) (h5 : vp_in a2 6) {P : qMI → qML → qMR → Prop} (hc : wkCv l G d n_X2_aim [.ref (o + 6), .int a3, .int a4, .int a1, .int (I (o + 2) a2.toNatClampNeg), .int (I (o + 3) a2.toNatClampNeg)] I L R P) (kk : ∀ I' L' R', P I' L' R' → wkB l G (d + 1) n_X0_rentFrom Q 23 [.ref o, .int a1, .int a2, .int a3, .int a4, .int a5] [] I' L' R') : wkB l G (d + 1) n_X0_rentFrom Q 0 [.ref o, .int a1, .int a2, .int a3, .int a4, .int a5] [] I L R :=
  bb_aload_n (n := 0) (i := 0) (zd (i := .aload_n 0) (n := 1) (by decide +kernel)) rfl rfl <|
  bb_getr (k := o) (ci := 0) (j := 12) (idx := 53) (a := (o + 6)) (zd (i := .getfield 53) (n := 3) (by decide +kernel)) (by rcases ho with rfl | rfl <;> decide +kernel) (by rcases ho with rfl | rfl <;> decide +kernel) (by decide +kernel) (by decide +kernel) rfl g304 h1 <|
  bb_iload_n (n := 3) (i := 3) (zd (i := .iload_n 3) (n := 1) (by decide +kernel)) rfl rfl <|
  bb_iload (i := 4) (zd (i := .iload 4) (n := 2) (by decide +kernel)) rfl <|
  bb_iload_n (n := 1) (i := 1) (zd (i := .iload_n 1) (n := 1) (by decide +kernel)) rfl rfl <|
  bb_aload_n (n := 0) (i := 0) (zd (i := .aload_n 0) (n := 1) (by decide +kernel)) rfl rfl <|
  bb_getr (k := o) (ci := 0) (j := 3) (idx := 22) (a := (o + 2)) (zd (i := .getfield 22) (n := 3) (by decide +kernel)) (by rcases ho with rfl | rfl <;> decide +kernel) (by rcases ho with rfl | rfl <;> decide +kernel) (by decide +kernel) (by decide +kernel) rfl g281 h2 <|
  bb_iload_n (n := 2) (i := 2) (zd (i := .iload_n 2) (n := 1) (by decide +kernel)) rfl rfl <|
  bb_lift (fun _ => q_iald (k := (o + 2)) (zd (i := .iaload) (n := 1) (by decide +kernel)) (by rcases ho with rfl | rfl <;> decide +kernel) (by rcases ho with rfl | rfl <;> decide +kernel) (by have hz := h3; rcases ho with rfl | rfl <;> exact hz)) <|
  bb_aload_n (n := 0) (i := 0) (zd (i := .aload_n 0) (n := 1) (by decide +kernel)) rfl rfl <|
  bb_getr (k := o) (ci := 0) (j := 4) (idx := 26) (a := (o + 3)) (zd (i := .getfield 26) (n := 3) (by decide +kernel)) (by rcases ho with rfl | rfl <;> decide +kernel) (by rcases ho with rfl | rfl <;> decide +kernel) (by decide +kernel) (by decide +kernel) rfl g283 h4 <|
  bb_iload_n (n := 2) (i := 2) (zd (i := .iload_n 2) (n := 1) (by decide +kernel)) rfl rfl <|
  bb_lift (fun _ => q_iald (k := (o + 3)) (zd (i := .iaload) (n := 1) (by decide +kernel)) (by rcases ho with rfl | rfl <;> decide +kernel) (by rcases ho with rfl | rfl <;> decide +kernel) (by have hz := h5; rcases ho with rfl | rfl <;> exact hz)) <|
  bb_callV (idx := 65) (k := (o + 6)) (ci := 2) (N := n_X2_aim) (As := [.int a3, .int a4, .int a1, .int (I (o + 2) a2.toNatClampNeg), .int (I (o + 3) a2.toNatClampNeg)]) (st := []) (zd (i := .invokevirtual 65) (n := 3) (by decide +kernel)) to_X2_aim g749 g750 g751 (Nat.le_of_ble_eq_true rfl) (by rcases ho with rfl | rfl <;> decide +kernel) (by rcases ho with rfl | rfl <;> decide +kernel) (by decide +kernel) rfl rfl rfl hc (fun r I' L' R' hq => by obtain ⟨rfl, hp⟩ := hq; exact kk I' L' R' hp)
theorem w_X0_rentFrom_23 {Q : qQ} {I : qMI} {L : qML} {R : qMR} {o : Nat} (ho : o = 9 ∨ o = 259) {a1 : Int32} {a2 : Int32} {a3 : Int32} {a4 : Int32} {a5 : Int32} (h1 : R o 12 = some (o + 6)) {P : Int32 → qMI → qML → qMR → Prop} (hc : wkCi l G d n_X2_rent [.ref (o + 6), .int a5] I L R P) (kk : ∀ y I' L' R', P y I' L' R' → wkB l G (d + 1) n_X0_rentFrom Q 32 [.ref o, .int a1, .int a2, .int a3, .int a4, .int a5] [.int y] I' L' R') : wkB l G (d + 1) n_X0_rentFrom Q 23 [.ref o, .int a1, .int a2, .int a3, .int a4, .int a5] [] I L R :=
  bb_aload_n (n := 0) (i := 0) (zd (i := .aload_n 0) (n := 1) (by decide +kernel)) rfl rfl <|
  bb_getr (k := o) (ci := 0) (j := 12) (idx := 53) (a := (o + 6)) (zd (i := .getfield 53) (n := 3) (by decide +kernel)) (by rcases ho with rfl | rfl <;> decide +kernel) (by rcases ho with rfl | rfl <;> decide +kernel) (by decide +kernel) (by decide +kernel) rfl g304 h1 <|
  bb_iload (i := 5) (zd (i := .iload 5) (n := 2) (by decide +kernel)) rfl <|
  bb_callV (idx := 80) (k := (o + 6)) (ci := 2) (N := n_X2_rent) (As := [.int a5]) (st := []) (zd (i := .invokevirtual 80) (n := 3) (by decide +kernel)) to_X2_rent g820 g821 g822 (Nat.le_of_ble_eq_true rfl) (by rcases ho with rfl | rfl <;> decide +kernel) (by rcases ho with rfl | rfl <;> decide +kernel) (by decide +kernel) rfl rfl rfl hc (fun r I' L' R' hq => by obtain ⟨y, rfl, hp⟩ := hq; exact kk y I' L' R' hp)
theorem w_X0_rentFrom_32 {Q : qQ} {I : qMI} {L : qML} {R : qMR} {o : Nat} (ho : o = 9 ∨ o = 259) {a1 : Int32} {a2 : Int32} {a3 : Int32} {a4 : Int32} {a5 : Int32} {s0 : Int32} (hQ : Q (some (.int s0)) 336 I L R) : wkB l G (d + 1) n_X0_rentFrom Q 32 [.ref o, .int a1, .int a2, .int a3, .int a4, .int a5] [.int s0] I L R :=
  (fun lv hl => q_iret (zd (i := .ireturn) (n := 1) (by decide +kernel)) rfl rfl (Nat.le_refl _) (Nat.le_refl _) hQ)
theorem w_X4_lentBy_0 {Q : qQ} {I : qMI} {L : qML} {R : qMR} {b : Nat} (hb : b ∈ bL) {a1 : Int32} (k : wkB l G (d + 1) n_X4_lentBy Q 4 [.ref b, .int a1, .int 0, .int 0] [] I L R) : wkB l G (d + 1) n_X4_lentBy Q 0 [.ref b, .int a1, wkU, wkU] [] I L R :=
  bb_lift (fun _ => q_iconst (n := 0) (zd (i := .iconst (0)) (n := 1) (by decide +kernel)) rfl) <|
  bb_istore_n (n := 2) (i := 2) (zd (i := .istore_n 2) (n := 1) (by decide +kernel)) rfl (by decide +kernel) (wkNl_i rfl) <|
  bb_lift (fun _ => q_iconst (n := 0) (zd (i := .iconst (0)) (n := 1) (by decide +kernel)) rfl) <|
  bb_istore_n (n := 3) (i := 3) (zd (i := .istore_n 3) (n := 1) (by decide +kernel)) rfl (by decide +kernel) (wkNl_i rfl) <|
  k
theorem w_X4_lentBy_4 {Q : qQ} {I : qMI} {L : qML} {R : qMR} {b : Nat} (hb : b ∈ bL) {a1 : Int32} {a2 : Int32} {a3 : Int32} (kt : 6 ≤ a3 → wkB l G (d + 1) n_X4_lentBy Q 29 [.ref b, .int a1, .int a2, .int a3] [] I L R) (kf : ¬ 6 ≤ a3 → wkB l G (d + 1) n_X4_lentBy Q 10 [.ref b, .int a1, .int a2, .int a3] [] I L R) : wkB l G (d + 1) n_X4_lentBy Q 4 [.ref b, .int a1, .int a2, .int a3] [] I L R :=
  bb_iload_n (n := 3) (i := 3) (zd (i := .iload_n 3) (n := 1) (by decide +kernel)) rfl rfl <|
  bb_lift (fun _ => q_bipush (n := 6) (zd (i := .bipush (6)) (n := 2) (by decide +kernel)) rfl) <|
  (fun lv hl => q_icmp_ge (off := 22) (tgt := 29) (zd (i := .if_icmp .ge (22)) (n := 3) (by decide +kernel)) (by decide) (fun h => (kt h) lv hl) (fun h => (kf h) lv hl))
theorem w_X4_lentBy_10 {Q : qQ} {I : qMI} {L : qML} {R : qMR} {b : Nat} (hb : b ∈ bL) {a1 : Int32} {a2 : Int32} {a3 : Int32} (h1 : R b 5 = some (b + 5)) {P : Int32 → qMI → qML → qMR → Prop} (hc : wkCi l G d n_X8_loanOf [.int a1, .int a3] I L R P) (kk : ∀ y I' L' R', P y I' L' R' → wkB l G (d + 1) n_X4_lentBy Q 20 [.ref b, .int a1, .int a2, .int a3] [.int y, .ref (b + 5), .int a2] I' L' R') : wkB l G (d + 1) n_X4_lentBy Q 10 [.ref b, .int a1, .int a2, .int a3] [] I L R :=
  bb_iload_n (n := 2) (i := 2) (zd (i := .iload_n 2) (n := 1) (by decide +kernel)) rfl rfl <|
  bb_aload_n (n := 0) (i := 0) (zd (i := .aload_n 0) (n := 1) (by decide +kernel)) rfl rfl <|
  bb_getr (k := b) (ci := 4) (j := 5) (idx := 28) (a := (b + 5)) (zd (i := .getfield 28) (n := 3) (by decide +kernel)) (by first | exact bLt hb 0 (by decide) | exact bTg hb 0 rfl | exact bCp hb 0 (by decide) | (rw [bTg (q := 4) hb 0 rfl]; decide) | (rw [bSz (q := 7) hb 0 rfl]; rfl)) (by first | exact bLt hb 0 (by decide) | exact bTg hb 0 rfl | exact bCp hb 0 (by decide) | (rw [bTg (q := 4) hb 0 rfl]; decide) | (rw [bSz (q := 7) hb 0 rfl]; rfl)) (by decide +kernel) (by decide +kernel) rfl g382 h1 <|
  bb_iload_n (n := 1) (i := 1) (zd (i := .iload_n 1) (n := 1) (by decide +kernel)) rfl rfl <|
  bb_iload_n (n := 3) (i := 3) (zd (i := .iload_n 3) (n := 1) (by decide +kernel)) rfl rfl <|
  bb_callSN (host := "MirageLoans") (idx := 59) (N := n_X8_loanOf) (As := [.int a1, .int a3]) (st := [.ref (b + 5), .int a2]) (zd (i := .invokestatic 59) (n := 3) (by decide +kernel)) to_X8_loanOf (by decide +kernel) g765 (Nat.le_of_ble_eq_true rfl) rfl rfl hc (fun r I' L' R' hq => by obtain ⟨y, rfl, hp⟩ := hq; exact kk y I' L' R' hp)
theorem w_X4_lentBy_20 {Q : qQ} {I : qMI} {L : qML} {R : qMR} {b : Nat} (hb : b ∈ bL) {a1 : Int32} {a2 : Int32} {a3 : Int32} {s0 : Int32} {s2 : Int32} (h1 : vp_in s2 36) (k : wkB l G (d + 1) n_X4_lentBy Q 4 [.ref b, .int a1, .int (s0 + (I (b + 5) s2.toNatClampNeg)), .int (a3 + 1)] [] I L R) : wkB l G (d + 1) n_X4_lentBy Q 20 [.ref b, .int a1, .int a2, .int a3] [.int s2, .ref (b + 5), .int s0] I L R :=
  bb_lift (fun _ => q_iald (k := (b + 5)) (zd (i := .iaload) (n := 1) (by decide +kernel)) (by first | exact bLt hb 5 (by decide) | exact bTg hb 5 rfl | exact bCp hb 5 (by decide) | (rw [bTg (q := 10) hb 5 rfl]; decide) | (rw [bSz (q := 36) hb 5 rfl]; rfl)) (by first | exact bLt hb 5 (by decide) | exact bTg hb 5 rfl | exact bCp hb 5 (by decide) | (rw [bTg (q := 10) hb 5 rfl]; decide) | (rw [bSz (q := 36) hb 5 rfl]; rfl)) (by rw [show (qSh (b + 5)).2 = 36 from bSz hb 5 rfl]; exact h1)) <|
  bb_lift (fun _ => q_iadd (zd (i := .iadd) (n := 1) (by decide +kernel))) <|
  bb_istore_n (n := 2) (i := 2) (zd (i := .istore_n 2) (n := 1) (by decide +kernel)) rfl (by decide +kernel) (wkNl_i rfl) <|
  bb_iinc (i := 3) (n := 1) (zd (i := .iinc 3 (1)) (n := 3) (by decide +kernel)) rfl rfl (by decide +kernel) (wkNl_i rfl) <|
  bb_lift (fun _ => q_goto (off := -22) (tgt := 4) (zd (i := .goto (-22)) (n := 3) (by decide +kernel)) (by decide)) k
theorem w_X4_lentBy_29 {Q : qQ} {I : qMI} {L : qML} {R : qMR} {b : Nat} (hb : b ∈ bL) {a1 : Int32} {a2 : Int32} {a3 : Int32} (hQ : Q (some (.int a2)) 336 I L R) : wkB l G (d + 1) n_X4_lentBy Q 29 [.ref b, .int a1, .int a2, .int a3] [] I L R :=
  bb_iload_n (n := 2) (i := 2) (zd (i := .iload_n 2) (n := 1) (by decide +kernel)) rfl rfl <|
  (fun lv hl => q_iret (zd (i := .ireturn) (n := 1) (by decide +kernel)) rfl rfl (Nat.le_refl _) (Nat.le_refl _) hQ)
theorem w_X4_loans_0 {Q : qQ} {I : qMI} {L : qML} {R : qMR} {b : Nat} (hb : b ∈ bL)  (h1 : R b 5 = some (b + 5)) (k : wkB l G (d + 1) n_X4_loans Q 13 [.ref b, .int 0, .ref (b + 5), .int 36, .int 0, wkU] [] I L R) : wkB l G (d + 1) n_X4_loans Q 0 [.ref b, wkU, wkU, wkU, wkU, wkU] [] I L R :=
  bb_lift (fun _ => q_iconst (n := 0) (zd (i := .iconst (0)) (n := 1) (by decide +kernel)) rfl) <|
  bb_istore_n (n := 1) (i := 1) (zd (i := .istore_n 1) (n := 1) (by decide +kernel)) rfl (by decide +kernel) (wkNl_r rfl) <|
  bb_aload_n (n := 0) (i := 0) (zd (i := .aload_n 0) (n := 1) (by decide +kernel)) rfl rfl <|
  bb_getr (k := b) (ci := 4) (j := 5) (idx := 28) (a := (b + 5)) (zd (i := .getfield 28) (n := 3) (by decide +kernel)) (by first | exact bLt hb 0 (by decide) | exact bTg hb 0 rfl | exact bCp hb 0 (by decide) | (rw [bTg (q := 4) hb 0 rfl]; decide) | (rw [bSz (q := 7) hb 0 rfl]; rfl)) (by first | exact bLt hb 0 (by decide) | exact bTg hb 0 rfl | exact bCp hb 0 (by decide) | (rw [bTg (q := 4) hb 0 rfl]; decide) | (rw [bSz (q := 7) hb 0 rfl]; rfl)) (by decide +kernel) (by decide +kernel) rfl g382 h1 <|
  bb_astore_n (n := 2) (i := 2) (zd (i := .astore_n 2) (n := 1) (by decide +kernel)) rfl (by decide +kernel) (wkNl_i rfl) <|
  bb_aload_n (n := 2) (i := 2) (zd (i := .aload_n 2) (n := 1) (by decide +kernel)) rfl rfl <|
  bb_alen (k := (b + 5)) (n := 36) (zd (i := .arraylength) (n := 1) (by decide +kernel)) (by first | exact bLt hb 5 (by decide) | exact bTg hb 5 rfl | exact bCp hb 5 (by decide) | (rw [bTg (q := 10) hb 5 rfl]; decide) | (rw [bSz (q := 36) hb 5 rfl]; rfl)) (by first | exact bLt hb 5 (by decide) | exact bTg hb 5 rfl | exact bCp hb 5 (by decide) | (rw [bTg (q := 10) hb 5 rfl]; decide) | (rw [bSz (q := 36) hb 5 rfl]; rfl)) (by first | exact bLt hb 5 (by decide) | exact bTg hb 5 rfl | exact bCp hb 5 (by decide) | (rw [bTg (q := 10) hb 5 rfl]; decide) | (rw [bSz (q := 36) hb 5 rfl]; rfl)) (by first | exact bLt hb 5 (by decide) | exact bTg hb 5 rfl | exact bCp hb 5 (by decide) | (rw [bTg (q := 10) hb 5 rfl]; decide) | (rw [bSz (q := 36) hb 5 rfl]; rfl)) <|
  bb_istore_n (n := 3) (i := 3) (zd (i := .istore_n 3) (n := 1) (by decide +kernel)) rfl (by decide +kernel) (wkNl_r rfl) <|
  bb_lift (fun _ => q_iconst (n := 0) (zd (i := .iconst (0)) (n := 1) (by decide +kernel)) rfl) <|
  bb_istore (i := 4) (zd (i := .istore 4) (n := 2) (by decide +kernel)) (by decide +kernel) (wkNl_i rfl) <|
  k
theorem w_X4_loans_13 {Q : qQ} {I : qMI} {L : qML} {R : qMR} {b : Nat} (hb : b ∈ bL) {a1 : Int32} {a3 : Int32} {a4 : Int32} (kt : a3 ≤ a4 → wkB l G (d + 1) n_X4_loans Q 44 [.ref b, .int a1, .ref (b + 5), .int a3, .int a4, wkU] [] I L R) (kf : ¬ a3 ≤ a4 → wkB l G (d + 1) n_X4_loans Q 19 [.ref b, .int a1, .ref (b + 5), .int a3, .int a4, wkU] [] I L R) : wkB l G (d + 1) n_X4_loans Q 13 [.ref b, .int a1, .ref (b + 5), .int a3, .int a4, wkU] [] I L R :=
  bb_iload (i := 4) (zd (i := .iload 4) (n := 2) (by decide +kernel)) rfl <|
  bb_iload_n (n := 3) (i := 3) (zd (i := .iload_n 3) (n := 1) (by decide +kernel)) rfl rfl <|
  (fun lv hl => q_icmp_ge (off := 28) (tgt := 44) (zd (i := .if_icmp .ge (28)) (n := 3) (by decide +kernel)) (by decide) (fun h => (kt h) lv hl) (fun h => (kf h) lv hl))
theorem w_X4_loans_19 {Q : qQ} {I : qMI} {L : qML} {R : qMR} {b : Nat} (hb : b ∈ bL) {a1 : Int32} {a3 : Int32} {a4 : Int32} (h1 : vp_in a4 36) (kt : (I (b + 5) a4.toNatClampNeg) = 0 → wkB l G (d + 1) n_X4_loans Q 35 [.ref b, .int a1, .ref (b + 5), .int a3, .int a4, .int (I (b + 5) a4.toNatClampNeg)] [.int a1] I L R) (kf : ¬ (I (b + 5) a4.toNatClampNeg) = 0 → wkB l G (d + 1) n_X4_loans Q 31 [.ref b, .int a1, .ref (b + 5), .int a3, .int a4, .int (I (b + 5) a4.toNatClampNeg)] [.int a1] I L R) : wkB l G (d + 1) n_X4_loans Q 19 [.ref b, .int a1, .ref (b + 5), .int a3, .int a4, wkU] [] I L R :=
  bb_aload_n (n := 2) (i := 2) (zd (i := .aload_n 2) (n := 1) (by decide +kernel)) rfl rfl <|
  bb_iload (i := 4) (zd (i := .iload 4) (n := 2) (by decide +kernel)) rfl <|
  bb_lift (fun _ => q_iald (k := (b + 5)) (zd (i := .iaload) (n := 1) (by decide +kernel)) (by first | exact bLt hb 5 (by decide) | exact bTg hb 5 rfl | exact bCp hb 5 (by decide) | (rw [bTg (q := 10) hb 5 rfl]; decide) | (rw [bSz (q := 36) hb 5 rfl]; rfl)) (by first | exact bLt hb 5 (by decide) | exact bTg hb 5 rfl | exact bCp hb 5 (by decide) | (rw [bTg (q := 10) hb 5 rfl]; decide) | (rw [bSz (q := 36) hb 5 rfl]; rfl)) (by rw [show (qSh (b + 5)).2 = 36 from bSz hb 5 rfl]; exact h1)) <|
  bb_istore (i := 5) (zd (i := .istore 5) (n := 2) (by decide +kernel)) (by decide +kernel) (wkNl_i rfl) <|
  bb_iload_n (n := 1) (i := 1) (zd (i := .iload_n 1) (n := 1) (by decide +kernel)) rfl rfl <|
  bb_iload (i := 5) (zd (i := .iload 5) (n := 2) (by decide +kernel)) rfl <|
  (fun lv hl => q_if_eq (off := 7) (tgt := 35) (zd (i := .ifCond .eq (7)) (n := 3) (by decide +kernel)) (by decide) (fun h => (kt h) lv hl) (fun h => (kf h) lv hl))
theorem w_X4_loans_31 {Q : qQ} {I : qMI} {L : qML} {R : qMR} {b : Nat} (hb : b ∈ bL) {a1 : Int32} {a3 : Int32} {a4 : Int32} {a5 : Int32} {s0 : Int32} (k : wkB l G (d + 1) n_X4_loans Q 36 [.ref b, .int a1, .ref (b + 5), .int a3, .int a4, .int a5] [.int 1, .int s0] I L R) : wkB l G (d + 1) n_X4_loans Q 31 [.ref b, .int a1, .ref (b + 5), .int a3, .int a4, .int a5] [.int s0] I L R :=
  bb_lift (fun _ => q_iconst (n := 1) (zd (i := .iconst (1)) (n := 1) (by decide +kernel)) rfl) <|
  bb_lift (fun _ => q_goto (off := 4) (tgt := 36) (zd (i := .goto (4)) (n := 3) (by decide +kernel)) (by decide)) k
theorem w_X4_loans_35 {Q : qQ} {I : qMI} {L : qML} {R : qMR} {b : Nat} (hb : b ∈ bL) {a1 : Int32} {a3 : Int32} {a4 : Int32} {a5 : Int32} {s0 : Int32} (k : wkB l G (d + 1) n_X4_loans Q 36 [.ref b, .int a1, .ref (b + 5), .int a3, .int a4, .int a5] [.int 0, .int s0] I L R) : wkB l G (d + 1) n_X4_loans Q 35 [.ref b, .int a1, .ref (b + 5), .int a3, .int a4, .int a5] [.int s0] I L R :=
  bb_lift (fun _ => q_iconst (n := 0) (zd (i := .iconst (0)) (n := 1) (by decide +kernel)) rfl) <|
  k
theorem w_X4_loans_36 {Q : qQ} {I : qMI} {L : qML} {R : qMR} {b : Nat} (hb : b ∈ bL) {a1 : Int32} {a3 : Int32} {a4 : Int32} {a5 : Int32} {s0 : Int32} {s1 : Int32} (k : wkB l G (d + 1) n_X4_loans Q 13 [.ref b, .int (s0 + s1), .ref (b + 5), .int a3, .int (a4 + 1), wkU] [] I L R) : wkB l G (d + 1) n_X4_loans Q 36 [.ref b, .int a1, .ref (b + 5), .int a3, .int a4, .int a5] [.int s1, .int s0] I L R :=
  bb_lift (fun _ => q_iadd (zd (i := .iadd) (n := 1) (by decide +kernel))) <|
  bb_istore_n (n := 1) (i := 1) (zd (i := .istore_n 1) (n := 1) (by decide +kernel)) rfl (by decide +kernel) (wkNl_r rfl) <|
  bb_iinc (i := 4) (n := 1) (zd (i := .iinc 4 (1)) (n := 3) (by decide +kernel)) rfl rfl (by decide +kernel) (wkNl_i rfl) <|
  bb_lift (fun _ => q_goto (off := -28) (tgt := 13) (zd (i := .goto (-28)) (n := 3) (by decide +kernel)) (by decide)) (wkB_le (vs := [.ref b, .int (s0 + s1), .ref (b + 5), .int a3, .int (a4 + 1), wkU]) (ws := [.ref b, .int (s0 + s1), .ref (b + 5), .int a3, .int (a4 + 1), .int a5]) ⟨Or.inr rfl, Or.inr rfl, Or.inr rfl, Or.inr rfl, Or.inr rfl, Or.inl rfl, trivial⟩ (k))
theorem w_X4_loans_44 {Q : qQ} {I : qMI} {L : qML} {R : qMR} {b : Nat} (hb : b ∈ bL) {a1 : Int32} {a3 : Int32} {a4 : Int32} (hQ : Q (some (.int a1)) 336 I L R) : wkB l G (d + 1) n_X4_loans Q 44 [.ref b, .int a1, .ref (b + 5), .int a3, .int a4, wkU] [] I L R :=
  bb_iload_n (n := 1) (i := 1) (zd (i := .iload_n 1) (n := 1) (by decide +kernel)) rfl rfl <|
  (fun lv hl => q_iret (zd (i := .ireturn) (n := 1) (by decide +kernel)) rfl rfl (Nat.le_refl _) (Nat.le_refl _) hQ)
theorem w_X8_sum23_0 {Q : qQ} {I : qMI} {L : qML} {R : qMR}  (k : wkB l G (d + 1) n_X8_sum Q 10 [.ref 23, .int 0, .ref 23, .int 6, .int 0, wkU] [] I L R) : wkB l G (d + 1) n_X8_sum Q 0 [.ref 23, wkU, wkU, wkU, wkU, wkU] [] I L R :=
  bb_lift (fun _ => q_iconst (n := 0) (zd (i := .iconst (0)) (n := 1) (by decide +kernel)) rfl) <|
  bb_istore_n (n := 1) (i := 1) (zd (i := .istore_n 1) (n := 1) (by decide +kernel)) rfl (by decide +kernel) (wkNl_r rfl) <|
  bb_aload_n (n := 0) (i := 0) (zd (i := .aload_n 0) (n := 1) (by decide +kernel)) rfl rfl <|
  bb_astore_n (n := 2) (i := 2) (zd (i := .astore_n 2) (n := 1) (by decide +kernel)) rfl (by decide +kernel) (wkNl_i rfl) <|
  bb_aload_n (n := 2) (i := 2) (zd (i := .aload_n 2) (n := 1) (by decide +kernel)) rfl rfl <|
  bb_alen (k := 23) (n := 6) (zd (i := .arraylength) (n := 1) (by decide +kernel)) (by decide +kernel) (by decide +kernel) (by decide +kernel) (by decide +kernel) <|
  bb_istore_n (n := 3) (i := 3) (zd (i := .istore_n 3) (n := 1) (by decide +kernel)) rfl (by decide +kernel) (wkNl_r rfl) <|
  bb_lift (fun _ => q_iconst (n := 0) (zd (i := .iconst (0)) (n := 1) (by decide +kernel)) rfl) <|
  bb_istore (i := 4) (zd (i := .istore 4) (n := 2) (by decide +kernel)) (by decide +kernel) (wkNl_i rfl) <|
  k
theorem w_X8_sum23_10 {Q : qQ} {I : qMI} {L : qML} {R : qMR} {a1 : Int32} {a3 : Int32} {a4 : Int32} (kt : a3 ≤ a4 → wkB l G (d + 1) n_X8_sum Q 33 [.ref 23, .int a1, .ref 23, .int a3, .int a4, wkU] [] I L R) (kf : ¬ a3 ≤ a4 → wkB l G (d + 1) n_X8_sum Q 16 [.ref 23, .int a1, .ref 23, .int a3, .int a4, wkU] [] I L R) : wkB l G (d + 1) n_X8_sum Q 10 [.ref 23, .int a1, .ref 23, .int a3, .int a4, wkU] [] I L R :=
  bb_iload (i := 4) (zd (i := .iload 4) (n := 2) (by decide +kernel)) rfl <|
  bb_iload_n (n := 3) (i := 3) (zd (i := .iload_n 3) (n := 1) (by decide +kernel)) rfl rfl <|
  (fun lv hl => q_icmp_ge (off := 20) (tgt := 33) (zd (i := .if_icmp .ge (20)) (n := 3) (by decide +kernel)) (by decide) (fun h => (kt h) lv hl) (fun h => (kf h) lv hl))
theorem w_X8_sum23_16 {Q : qQ} {I : qMI} {L : qML} {R : qMR} {a1 : Int32} {a3 : Int32} {a4 : Int32} (h1 : vp_in a4 6) (k : wkB l G (d + 1) n_X8_sum Q 10 [.ref 23, .int (a1 + (I 23 a4.toNatClampNeg)), .ref 23, .int a3, .int (a4 + 1), wkU] [] I L R) : wkB l G (d + 1) n_X8_sum Q 16 [.ref 23, .int a1, .ref 23, .int a3, .int a4, wkU] [] I L R :=
  bb_aload_n (n := 2) (i := 2) (zd (i := .aload_n 2) (n := 1) (by decide +kernel)) rfl rfl <|
  bb_iload (i := 4) (zd (i := .iload 4) (n := 2) (by decide +kernel)) rfl <|
  bb_lift (fun _ => q_iald (k := 23) (zd (i := .iaload) (n := 1) (by decide +kernel)) (by decide +kernel) (by decide +kernel) h1) <|
  bb_istore (i := 5) (zd (i := .istore 5) (n := 2) (by decide +kernel)) (by decide +kernel) (wkNl_i rfl) <|
  bb_iload_n (n := 1) (i := 1) (zd (i := .iload_n 1) (n := 1) (by decide +kernel)) rfl rfl <|
  bb_iload (i := 5) (zd (i := .iload 5) (n := 2) (by decide +kernel)) rfl <|
  bb_lift (fun _ => q_iadd (zd (i := .iadd) (n := 1) (by decide +kernel))) <|
  bb_istore_n (n := 1) (i := 1) (zd (i := .istore_n 1) (n := 1) (by decide +kernel)) rfl (by decide +kernel) (wkNl_r rfl) <|
  bb_iinc (i := 4) (n := 1) (zd (i := .iinc 4 (1)) (n := 3) (by decide +kernel)) rfl rfl (by decide +kernel) (wkNl_i rfl) <|
  bb_lift (fun _ => q_goto (off := -20) (tgt := 10) (zd (i := .goto (-20)) (n := 3) (by decide +kernel)) (by decide)) (wkB_le (vs := [.ref 23, .int (a1 + (I 23 a4.toNatClampNeg)), .ref 23, .int a3, .int (a4 + 1), wkU]) (ws := [.ref 23, .int (a1 + (I 23 a4.toNatClampNeg)), .ref 23, .int a3, .int (a4 + 1), .int (I 23 a4.toNatClampNeg)]) ⟨Or.inr rfl, Or.inr rfl, Or.inr rfl, Or.inr rfl, Or.inr rfl, Or.inl rfl, trivial⟩ (k))
theorem w_X8_sum23_33 {Q : qQ} {I : qMI} {L : qML} {R : qMR} {a1 : Int32} {a3 : Int32} {a4 : Int32} (hQ : Q (some (.int a1)) 336 I L R) : wkB l G (d + 1) n_X8_sum Q 33 [.ref 23, .int a1, .ref 23, .int a3, .int a4, wkU] [] I L R :=
  bb_iload_n (n := 1) (i := 1) (zd (i := .iload_n 1) (n := 1) (by decide +kernel)) rfl rfl <|
  (fun lv hl => q_iret (zd (i := .ireturn) (n := 1) (by decide +kernel)) rfl rfl (Nat.le_refl _) (Nat.le_refl _) hQ)
theorem w_X8_sum24_0 {Q : qQ} {I : qMI} {L : qML} {R : qMR}  (k : wkB l G (d + 1) n_X8_sum Q 10 [.ref 24, .int 0, .ref 24, .int 6, .int 0, wkU] [] I L R) : wkB l G (d + 1) n_X8_sum Q 0 [.ref 24, wkU, wkU, wkU, wkU, wkU] [] I L R :=
  bb_lift (fun _ => q_iconst (n := 0) (zd (i := .iconst (0)) (n := 1) (by decide +kernel)) rfl) <|
  bb_istore_n (n := 1) (i := 1) (zd (i := .istore_n 1) (n := 1) (by decide +kernel)) rfl (by decide +kernel) (wkNl_r rfl) <|
  bb_aload_n (n := 0) (i := 0) (zd (i := .aload_n 0) (n := 1) (by decide +kernel)) rfl rfl <|
  bb_astore_n (n := 2) (i := 2) (zd (i := .astore_n 2) (n := 1) (by decide +kernel)) rfl (by decide +kernel) (wkNl_i rfl) <|
  bb_aload_n (n := 2) (i := 2) (zd (i := .aload_n 2) (n := 1) (by decide +kernel)) rfl rfl <|
  bb_alen (k := 24) (n := 6) (zd (i := .arraylength) (n := 1) (by decide +kernel)) (by decide +kernel) (by decide +kernel) (by decide +kernel) (by decide +kernel) <|
  bb_istore_n (n := 3) (i := 3) (zd (i := .istore_n 3) (n := 1) (by decide +kernel)) rfl (by decide +kernel) (wkNl_r rfl) <|
  bb_lift (fun _ => q_iconst (n := 0) (zd (i := .iconst (0)) (n := 1) (by decide +kernel)) rfl) <|
  bb_istore (i := 4) (zd (i := .istore 4) (n := 2) (by decide +kernel)) (by decide +kernel) (wkNl_i rfl) <|
  k
theorem w_X8_sum24_10 {Q : qQ} {I : qMI} {L : qML} {R : qMR} {a1 : Int32} {a3 : Int32} {a4 : Int32} (kt : a3 ≤ a4 → wkB l G (d + 1) n_X8_sum Q 33 [.ref 24, .int a1, .ref 24, .int a3, .int a4, wkU] [] I L R) (kf : ¬ a3 ≤ a4 → wkB l G (d + 1) n_X8_sum Q 16 [.ref 24, .int a1, .ref 24, .int a3, .int a4, wkU] [] I L R) : wkB l G (d + 1) n_X8_sum Q 10 [.ref 24, .int a1, .ref 24, .int a3, .int a4, wkU] [] I L R :=
  bb_iload (i := 4) (zd (i := .iload 4) (n := 2) (by decide +kernel)) rfl <|
  bb_iload_n (n := 3) (i := 3) (zd (i := .iload_n 3) (n := 1) (by decide +kernel)) rfl rfl <|
  (fun lv hl => q_icmp_ge (off := 20) (tgt := 33) (zd (i := .if_icmp .ge (20)) (n := 3) (by decide +kernel)) (by decide) (fun h => (kt h) lv hl) (fun h => (kf h) lv hl))
theorem w_X8_sum24_16 {Q : qQ} {I : qMI} {L : qML} {R : qMR} {a1 : Int32} {a3 : Int32} {a4 : Int32} (h1 : vp_in a4 6) (k : wkB l G (d + 1) n_X8_sum Q 10 [.ref 24, .int (a1 + (I 24 a4.toNatClampNeg)), .ref 24, .int a3, .int (a4 + 1), wkU] [] I L R) : wkB l G (d + 1) n_X8_sum Q 16 [.ref 24, .int a1, .ref 24, .int a3, .int a4, wkU] [] I L R :=
  bb_aload_n (n := 2) (i := 2) (zd (i := .aload_n 2) (n := 1) (by decide +kernel)) rfl rfl <|
  bb_iload (i := 4) (zd (i := .iload 4) (n := 2) (by decide +kernel)) rfl <|
  bb_lift (fun _ => q_iald (k := 24) (zd (i := .iaload) (n := 1) (by decide +kernel)) (by decide +kernel) (by decide +kernel) h1) <|
  bb_istore (i := 5) (zd (i := .istore 5) (n := 2) (by decide +kernel)) (by decide +kernel) (wkNl_i rfl) <|
  bb_iload_n (n := 1) (i := 1) (zd (i := .iload_n 1) (n := 1) (by decide +kernel)) rfl rfl <|
  bb_iload (i := 5) (zd (i := .iload 5) (n := 2) (by decide +kernel)) rfl <|
  bb_lift (fun _ => q_iadd (zd (i := .iadd) (n := 1) (by decide +kernel))) <|
  bb_istore_n (n := 1) (i := 1) (zd (i := .istore_n 1) (n := 1) (by decide +kernel)) rfl (by decide +kernel) (wkNl_r rfl) <|
  bb_iinc (i := 4) (n := 1) (zd (i := .iinc 4 (1)) (n := 3) (by decide +kernel)) rfl rfl (by decide +kernel) (wkNl_i rfl) <|
  bb_lift (fun _ => q_goto (off := -20) (tgt := 10) (zd (i := .goto (-20)) (n := 3) (by decide +kernel)) (by decide)) (wkB_le (vs := [.ref 24, .int (a1 + (I 24 a4.toNatClampNeg)), .ref 24, .int a3, .int (a4 + 1), wkU]) (ws := [.ref 24, .int (a1 + (I 24 a4.toNatClampNeg)), .ref 24, .int a3, .int (a4 + 1), .int (I 24 a4.toNatClampNeg)]) ⟨Or.inr rfl, Or.inr rfl, Or.inr rfl, Or.inr rfl, Or.inr rfl, Or.inl rfl, trivial⟩ (k))
theorem w_X8_sum24_33 {Q : qQ} {I : qMI} {L : qML} {R : qMR} {a1 : Int32} {a3 : Int32} {a4 : Int32} (hQ : Q (some (.int a1)) 336 I L R) : wkB l G (d + 1) n_X8_sum Q 33 [.ref 24, .int a1, .ref 24, .int a3, .int a4, wkU] [] I L R :=
  bb_iload_n (n := 1) (i := 1) (zd (i := .iload_n 1) (n := 1) (by decide +kernel)) rfl rfl <|
  (fun lv hl => q_iret (zd (i := .ireturn) (n := 1) (by decide +kernel)) rfl rfl (Nat.le_refl _) (Nat.le_refl _) hQ)
theorem w_X8_sum25_0 {Q : qQ} {I : qMI} {L : qML} {R : qMR}  (k : wkB l G (d + 1) n_X8_sum Q 10 [.ref 25, .int 0, .ref 25, .int 6, .int 0, wkU] [] I L R) : wkB l G (d + 1) n_X8_sum Q 0 [.ref 25, wkU, wkU, wkU, wkU, wkU] [] I L R :=
  bb_lift (fun _ => q_iconst (n := 0) (zd (i := .iconst (0)) (n := 1) (by decide +kernel)) rfl) <|
  bb_istore_n (n := 1) (i := 1) (zd (i := .istore_n 1) (n := 1) (by decide +kernel)) rfl (by decide +kernel) (wkNl_r rfl) <|
  bb_aload_n (n := 0) (i := 0) (zd (i := .aload_n 0) (n := 1) (by decide +kernel)) rfl rfl <|
  bb_astore_n (n := 2) (i := 2) (zd (i := .astore_n 2) (n := 1) (by decide +kernel)) rfl (by decide +kernel) (wkNl_i rfl) <|
  bb_aload_n (n := 2) (i := 2) (zd (i := .aload_n 2) (n := 1) (by decide +kernel)) rfl rfl <|
  bb_alen (k := 25) (n := 6) (zd (i := .arraylength) (n := 1) (by decide +kernel)) (by decide +kernel) (by decide +kernel) (by decide +kernel) (by decide +kernel) <|
  bb_istore_n (n := 3) (i := 3) (zd (i := .istore_n 3) (n := 1) (by decide +kernel)) rfl (by decide +kernel) (wkNl_r rfl) <|
  bb_lift (fun _ => q_iconst (n := 0) (zd (i := .iconst (0)) (n := 1) (by decide +kernel)) rfl) <|
  bb_istore (i := 4) (zd (i := .istore 4) (n := 2) (by decide +kernel)) (by decide +kernel) (wkNl_i rfl) <|
  k
theorem w_X8_sum25_10 {Q : qQ} {I : qMI} {L : qML} {R : qMR} {a1 : Int32} {a3 : Int32} {a4 : Int32} (kt : a3 ≤ a4 → wkB l G (d + 1) n_X8_sum Q 33 [.ref 25, .int a1, .ref 25, .int a3, .int a4, wkU] [] I L R) (kf : ¬ a3 ≤ a4 → wkB l G (d + 1) n_X8_sum Q 16 [.ref 25, .int a1, .ref 25, .int a3, .int a4, wkU] [] I L R) : wkB l G (d + 1) n_X8_sum Q 10 [.ref 25, .int a1, .ref 25, .int a3, .int a4, wkU] [] I L R :=
  bb_iload (i := 4) (zd (i := .iload 4) (n := 2) (by decide +kernel)) rfl <|
  bb_iload_n (n := 3) (i := 3) (zd (i := .iload_n 3) (n := 1) (by decide +kernel)) rfl rfl <|
  (fun lv hl => q_icmp_ge (off := 20) (tgt := 33) (zd (i := .if_icmp .ge (20)) (n := 3) (by decide +kernel)) (by decide) (fun h => (kt h) lv hl) (fun h => (kf h) lv hl))
theorem w_X8_sum25_16 {Q : qQ} {I : qMI} {L : qML} {R : qMR} {a1 : Int32} {a3 : Int32} {a4 : Int32} (h1 : vp_in a4 6) (k : wkB l G (d + 1) n_X8_sum Q 10 [.ref 25, .int (a1 + (I 25 a4.toNatClampNeg)), .ref 25, .int a3, .int (a4 + 1), wkU] [] I L R) : wkB l G (d + 1) n_X8_sum Q 16 [.ref 25, .int a1, .ref 25, .int a3, .int a4, wkU] [] I L R :=
  bb_aload_n (n := 2) (i := 2) (zd (i := .aload_n 2) (n := 1) (by decide +kernel)) rfl rfl <|
  bb_iload (i := 4) (zd (i := .iload 4) (n := 2) (by decide +kernel)) rfl <|
  bb_lift (fun _ => q_iald (k := 25) (zd (i := .iaload) (n := 1) (by decide +kernel)) (by decide +kernel) (by decide +kernel) h1) <|
  bb_istore (i := 5) (zd (i := .istore 5) (n := 2) (by decide +kernel)) (by decide +kernel) (wkNl_i rfl) <|
  bb_iload_n (n := 1) (i := 1) (zd (i := .iload_n 1) (n := 1) (by decide +kernel)) rfl rfl <|
  bb_iload (i := 5) (zd (i := .iload 5) (n := 2) (by decide +kernel)) rfl <|
  bb_lift (fun _ => q_iadd (zd (i := .iadd) (n := 1) (by decide +kernel))) <|
  bb_istore_n (n := 1) (i := 1) (zd (i := .istore_n 1) (n := 1) (by decide +kernel)) rfl (by decide +kernel) (wkNl_r rfl) <|
  bb_iinc (i := 4) (n := 1) (zd (i := .iinc 4 (1)) (n := 3) (by decide +kernel)) rfl rfl (by decide +kernel) (wkNl_i rfl) <|
  bb_lift (fun _ => q_goto (off := -20) (tgt := 10) (zd (i := .goto (-20)) (n := 3) (by decide +kernel)) (by decide)) (wkB_le (vs := [.ref 25, .int (a1 + (I 25 a4.toNatClampNeg)), .ref 25, .int a3, .int (a4 + 1), wkU]) (ws := [.ref 25, .int (a1 + (I 25 a4.toNatClampNeg)), .ref 25, .int a3, .int (a4 + 1), .int (I 25 a4.toNatClampNeg)]) ⟨Or.inr rfl, Or.inr rfl, Or.inr rfl, Or.inr rfl, Or.inr rfl, Or.inl rfl, trivial⟩ (k))
theorem w_X8_sum25_33 {Q : qQ} {I : qMI} {L : qML} {R : qMR} {a1 : Int32} {a3 : Int32} {a4 : Int32} (hQ : Q (some (.int a1)) 336 I L R) : wkB l G (d + 1) n_X8_sum Q 33 [.ref 25, .int a1, .ref 25, .int a3, .int a4, wkU] [] I L R :=
  bb_iload_n (n := 1) (i := 1) (zd (i := .iload_n 1) (n := 1) (by decide +kernel)) rfl rfl <|
  (fun lv hl => q_iret (zd (i := .ireturn) (n := 1) (by decide +kernel)) rfl rfl (Nat.le_refl _) (Nat.le_refl _) hQ)
theorem w_X8_sum26_0 {Q : qQ} {I : qMI} {L : qML} {R : qMR}  (k : wkB l G (d + 1) n_X8_sum Q 10 [.ref 26, .int 0, .ref 26, .int 36, .int 0, wkU] [] I L R) : wkB l G (d + 1) n_X8_sum Q 0 [.ref 26, wkU, wkU, wkU, wkU, wkU] [] I L R :=
  bb_lift (fun _ => q_iconst (n := 0) (zd (i := .iconst (0)) (n := 1) (by decide +kernel)) rfl) <|
  bb_istore_n (n := 1) (i := 1) (zd (i := .istore_n 1) (n := 1) (by decide +kernel)) rfl (by decide +kernel) (wkNl_r rfl) <|
  bb_aload_n (n := 0) (i := 0) (zd (i := .aload_n 0) (n := 1) (by decide +kernel)) rfl rfl <|
  bb_astore_n (n := 2) (i := 2) (zd (i := .astore_n 2) (n := 1) (by decide +kernel)) rfl (by decide +kernel) (wkNl_i rfl) <|
  bb_aload_n (n := 2) (i := 2) (zd (i := .aload_n 2) (n := 1) (by decide +kernel)) rfl rfl <|
  bb_alen (k := 26) (n := 36) (zd (i := .arraylength) (n := 1) (by decide +kernel)) (by decide +kernel) (by decide +kernel) (by decide +kernel) (by decide +kernel) <|
  bb_istore_n (n := 3) (i := 3) (zd (i := .istore_n 3) (n := 1) (by decide +kernel)) rfl (by decide +kernel) (wkNl_r rfl) <|
  bb_lift (fun _ => q_iconst (n := 0) (zd (i := .iconst (0)) (n := 1) (by decide +kernel)) rfl) <|
  bb_istore (i := 4) (zd (i := .istore 4) (n := 2) (by decide +kernel)) (by decide +kernel) (wkNl_i rfl) <|
  k
theorem w_X8_sum26_10 {Q : qQ} {I : qMI} {L : qML} {R : qMR} {a1 : Int32} {a3 : Int32} {a4 : Int32} (kt : a3 ≤ a4 → wkB l G (d + 1) n_X8_sum Q 33 [.ref 26, .int a1, .ref 26, .int a3, .int a4, wkU] [] I L R) (kf : ¬ a3 ≤ a4 → wkB l G (d + 1) n_X8_sum Q 16 [.ref 26, .int a1, .ref 26, .int a3, .int a4, wkU] [] I L R) : wkB l G (d + 1) n_X8_sum Q 10 [.ref 26, .int a1, .ref 26, .int a3, .int a4, wkU] [] I L R :=
  bb_iload (i := 4) (zd (i := .iload 4) (n := 2) (by decide +kernel)) rfl <|
  bb_iload_n (n := 3) (i := 3) (zd (i := .iload_n 3) (n := 1) (by decide +kernel)) rfl rfl <|
  (fun lv hl => q_icmp_ge (off := 20) (tgt := 33) (zd (i := .if_icmp .ge (20)) (n := 3) (by decide +kernel)) (by decide) (fun h => (kt h) lv hl) (fun h => (kf h) lv hl))
theorem w_X8_sum26_16 {Q : qQ} {I : qMI} {L : qML} {R : qMR} {a1 : Int32} {a3 : Int32} {a4 : Int32} (h1 : vp_in a4 36) (k : wkB l G (d + 1) n_X8_sum Q 10 [.ref 26, .int (a1 + (I 26 a4.toNatClampNeg)), .ref 26, .int a3, .int (a4 + 1), wkU] [] I L R) : wkB l G (d + 1) n_X8_sum Q 16 [.ref 26, .int a1, .ref 26, .int a3, .int a4, wkU] [] I L R :=
  bb_aload_n (n := 2) (i := 2) (zd (i := .aload_n 2) (n := 1) (by decide +kernel)) rfl rfl <|
  bb_iload (i := 4) (zd (i := .iload 4) (n := 2) (by decide +kernel)) rfl <|
  bb_lift (fun _ => q_iald (k := 26) (zd (i := .iaload) (n := 1) (by decide +kernel)) (by decide +kernel) (by decide +kernel) h1) <|
  bb_istore (i := 5) (zd (i := .istore 5) (n := 2) (by decide +kernel)) (by decide +kernel) (wkNl_i rfl) <|
  bb_iload_n (n := 1) (i := 1) (zd (i := .iload_n 1) (n := 1) (by decide +kernel)) rfl rfl <|
  bb_iload (i := 5) (zd (i := .iload 5) (n := 2) (by decide +kernel)) rfl <|
  bb_lift (fun _ => q_iadd (zd (i := .iadd) (n := 1) (by decide +kernel))) <|
  bb_istore_n (n := 1) (i := 1) (zd (i := .istore_n 1) (n := 1) (by decide +kernel)) rfl (by decide +kernel) (wkNl_r rfl) <|
  bb_iinc (i := 4) (n := 1) (zd (i := .iinc 4 (1)) (n := 3) (by decide +kernel)) rfl rfl (by decide +kernel) (wkNl_i rfl) <|
  bb_lift (fun _ => q_goto (off := -20) (tgt := 10) (zd (i := .goto (-20)) (n := 3) (by decide +kernel)) (by decide)) (wkB_le (vs := [.ref 26, .int (a1 + (I 26 a4.toNatClampNeg)), .ref 26, .int a3, .int (a4 + 1), wkU]) (ws := [.ref 26, .int (a1 + (I 26 a4.toNatClampNeg)), .ref 26, .int a3, .int (a4 + 1), .int (I 26 a4.toNatClampNeg)]) ⟨Or.inr rfl, Or.inr rfl, Or.inr rfl, Or.inr rfl, Or.inr rfl, Or.inl rfl, trivial⟩ (k))
theorem w_X8_sum26_33 {Q : qQ} {I : qMI} {L : qML} {R : qMR} {a1 : Int32} {a3 : Int32} {a4 : Int32} (hQ : Q (some (.int a1)) 336 I L R) : wkB l G (d + 1) n_X8_sum Q 33 [.ref 26, .int a1, .ref 26, .int a3, .int a4, wkU] [] I L R :=
  bb_iload_n (n := 1) (i := 1) (zd (i := .iload_n 1) (n := 1) (by decide +kernel)) rfl rfl <|
  (fun lv hl => q_iret (zd (i := .ireturn) (n := 1) (by decide +kernel)) rfl rfl (Nat.le_refl _) (Nat.le_refl _) hQ)
theorem w_X8_seatsThatSee_0 {Q : qQ} {I : qMI} {L : qML} {R : qMR} {o : Nat} (ho : o = 9 ∨ o = 259) {a1 : Int32} (h1 : R 0 12 = some o) (h2 : R 0 2 = some 21) {P : Int32 → qMI → qML → qMR → Prop} (hc : wkCi l G d n_X0_heat [.ref o, .int (I 21 0)] I L R P) (kk : ∀ y I' L' R', P y I' L' R' → wkB l G (d + 1) n_X8_seatsThatSee Q 14 [.ref 0, .int a1, wkU, wkU, wkU] [.int y] I' L' R') : wkB l G (d + 1) n_X8_seatsThatSee Q 0 [.ref 0, .int a1, wkU, wkU, wkU] [] I L R :=
  bb_aload_n (n := 0) (i := 0) (zd (i := .aload_n 0) (n := 1) (by decide +kernel)) rfl rfl <|
  bb_getr (k := 0) (ci := 8) (j := 12) (idx := 71) (a := o) (zd (i := .getfield 71) (n := 3) (by decide +kernel)) (by decide +kernel) (by decide +kernel) (by decide +kernel) (by decide +kernel) rfl g464 h1 <|
  bb_aload_n (n := 0) (i := 0) (zd (i := .aload_n 0) (n := 1) (by decide +kernel)) rfl rfl <|
  bb_getr (k := 0) (ci := 8) (j := 2) (idx := 26) (a := 21) (zd (i := .getfield 26) (n := 3) (by decide +kernel)) (by decide +kernel) (by decide +kernel) (by decide +kernel) (by decide +kernel) rfl g454 h2 <|
  bb_geti (k := 21) (ci := 4) (j := 0) (idx := 140) (zd (i := .getfield 140) (n := 3) (by decide +kernel)) (by decide +kernel) (by decide +kernel) (by decide +kernel) (by decide +kernel) rfl g368 <|
  bb_callV (idx := 143) (k := o) (ci := 0) (N := n_X0_heat) (As := [.int (I 21 0)]) (st := []) (zd (i := .invokevirtual 143) (n := 3) (by decide +kernel)) to_X0_heat g716 g717 g718 (Nat.le_of_ble_eq_true rfl) (by rcases ho with rfl | rfl <;> decide +kernel) (by rcases ho with rfl | rfl <;> decide +kernel) (by decide +kernel) rfl rfl rfl hc (fun r I' L' R' hq => by obtain ⟨y, rfl, hp⟩ := hq; exact kk y I' L' R' hp)
theorem w_X8_seatsThatSee_14 {Q : qQ} {I : qMI} {L : qML} {R : qMR} {a1 : Int32} {s0 : Int32} (k : wkB l G (d + 1) n_X8_seatsThatSee Q 20 [.ref 0, .int a1, .int s0, .int 0, .int 0] [] I L R) : wkB l G (d + 1) n_X8_seatsThatSee Q 14 [.ref 0, .int a1, wkU, wkU, wkU] [.int s0] I L R :=
  bb_istore_n (n := 2) (i := 2) (zd (i := .istore_n 2) (n := 1) (by decide +kernel)) rfl (by decide +kernel) (wkNl_i rfl) <|
  bb_lift (fun _ => q_iconst (n := 0) (zd (i := .iconst (0)) (n := 1) (by decide +kernel)) rfl) <|
  bb_istore_n (n := 3) (i := 3) (zd (i := .istore_n 3) (n := 1) (by decide +kernel)) rfl (by decide +kernel) (wkNl_i rfl) <|
  bb_lift (fun _ => q_iconst (n := 0) (zd (i := .iconst (0)) (n := 1) (by decide +kernel)) rfl) <|
  bb_istore (i := 4) (zd (i := .istore 4) (n := 2) (by decide +kernel)) (by decide +kernel) (wkNl_i rfl) <|
  k
theorem w_X8_seatsThatSee_20 {Q : qQ} {I : qMI} {L : qML} {R : qMR} {o : Nat} (ho : o = 9 ∨ o = 259) {a1 : Int32} {a2 : Int32} {a3 : Int32} {a4 : Int32} (h1 : R 0 12 = some o) (kt : (I o 5) ≤ a4 → wkB l G (d + 1) n_X8_seatsThatSee Q 74 [.ref 0, .int a1, .int a2, .int a3, .int a4] [] I L R) (kf : ¬ (I o 5) ≤ a4 → wkB l G (d + 1) n_X8_seatsThatSee Q 32 [.ref 0, .int a1, .int a2, .int a3, .int a4] [] I L R) : wkB l G (d + 1) n_X8_seatsThatSee Q 20 [.ref 0, .int a1, .int a2, .int a3, .int a4] [] I L R :=
  bb_iload (i := 4) (zd (i := .iload 4) (n := 2) (by decide +kernel)) rfl <|
  bb_aload_n (n := 0) (i := 0) (zd (i := .aload_n 0) (n := 1) (by decide +kernel)) rfl rfl <|
  bb_getr (k := 0) (ci := 8) (j := 12) (idx := 71) (a := o) (zd (i := .getfield 71) (n := 3) (by decide +kernel)) (by decide +kernel) (by decide +kernel) (by decide +kernel) (by decide +kernel) rfl g464 h1 <|
  bb_geti (k := o) (ci := 0) (j := 5) (idx := 230) (zd (i := .getfield 230) (n := 3) (by decide +kernel)) (by rcases ho with rfl | rfl <;> decide +kernel) (by rcases ho with rfl | rfl <;> decide +kernel) (by decide +kernel) (by decide +kernel) rfl g288 <|
  (fun lv hl => q_icmp_ge (off := 45) (tgt := 74) (zd (i := .if_icmp .ge (45)) (n := 3) (by decide +kernel)) (by decide) (fun h => (kt h) lv hl) (fun h => (kf h) lv hl))
theorem w_X8_seatsThatSee_32 {Q : qQ} {I : qMI} {L : qML} {R : qMR} {o : Nat} (ho : o = 9 ∨ o = 259) {a1 : Int32} {a2 : Int32} {a3 : Int32} {a4 : Int32} (h1 : R 0 12 = some o) (h2 : R 0 2 = some 21) (h3 : R 21 1 = some 22) (h4 : vp_in a4 6) (h5 : R 0 2 = some 21) {P : Int32 → qMI → qML → qMR → Prop} (hc : wkCi l G d n_X0_isSeenFrom [.ref o, .int (I 22 a4.toNatClampNeg), .int a1, .int (I 21 0), .int a2] I L R P) (kk : ∀ y I' L' R', P y I' L' R' → wkB l G (d + 1) n_X8_seatsThatSee Q 58 [.ref 0, .int a1, .int a2, .int a3, .int a4] [.int y] I' L' R') : wkB l G (d + 1) n_X8_seatsThatSee Q 32 [.ref 0, .int a1, .int a2, .int a3, .int a4] [] I L R :=
  bb_aload_n (n := 0) (i := 0) (zd (i := .aload_n 0) (n := 1) (by decide +kernel)) rfl rfl <|
  bb_getr (k := 0) (ci := 8) (j := 12) (idx := 71) (a := o) (zd (i := .getfield 71) (n := 3) (by decide +kernel)) (by decide +kernel) (by decide +kernel) (by decide +kernel) (by decide +kernel) rfl g464 h1 <|
  bb_aload_n (n := 0) (i := 0) (zd (i := .aload_n 0) (n := 1) (by decide +kernel)) rfl rfl <|
  bb_getr (k := 0) (ci := 8) (j := 2) (idx := 26) (a := 21) (zd (i := .getfield 26) (n := 3) (by decide +kernel)) (by decide +kernel) (by decide +kernel) (by decide +kernel) (by decide +kernel) rfl g454 h2 <|
  bb_getr (k := 21) (ci := 4) (j := 1) (idx := 134) (a := 22) (zd (i := .getfield 134) (n := 3) (by decide +kernel)) (by decide +kernel) (by decide +kernel) (by decide +kernel) (by decide +kernel) rfl g371 h3 <|
  bb_iload (i := 4) (zd (i := .iload 4) (n := 2) (by decide +kernel)) rfl <|
  bb_lift (fun _ => q_iald (k := 22) (zd (i := .iaload) (n := 1) (by decide +kernel)) (by decide +kernel) (by decide +kernel) h4) <|
  bb_iload_n (n := 1) (i := 1) (zd (i := .iload_n 1) (n := 1) (by decide +kernel)) rfl rfl <|
  bb_aload_n (n := 0) (i := 0) (zd (i := .aload_n 0) (n := 1) (by decide +kernel)) rfl rfl <|
  bb_getr (k := 0) (ci := 8) (j := 2) (idx := 26) (a := 21) (zd (i := .getfield 26) (n := 3) (by decide +kernel)) (by decide +kernel) (by decide +kernel) (by decide +kernel) (by decide +kernel) rfl g454 h5 <|
  bb_geti (k := 21) (ci := 4) (j := 0) (idx := 140) (zd (i := .getfield 140) (n := 3) (by decide +kernel)) (by decide +kernel) (by decide +kernel) (by decide +kernel) (by decide +kernel) rfl g368 <|
  bb_iload_n (n := 2) (i := 2) (zd (i := .iload_n 2) (n := 1) (by decide +kernel)) rfl rfl <|
  bb_callV (idx := 239) (k := o) (ci := 0) (N := n_X0_isSeenFrom) (As := [.int (I 22 a4.toNatClampNeg), .int a1, .int (I 21 0), .int a2]) (st := []) (zd (i := .invokevirtual 239) (n := 3) (by decide +kernel)) to_X0_isSeenFrom g745 g746 g747 (Nat.le_of_ble_eq_true rfl) (by rcases ho with rfl | rfl <;> decide +kernel) (by rcases ho with rfl | rfl <;> decide +kernel) (by decide +kernel) rfl rfl rfl hc (fun r I' L' R' hq => by obtain ⟨y, rfl, hp⟩ := hq; exact kk y I' L' R' hp)
theorem w_X8_seatsThatSee_58 {Q : qQ} {I : qMI} {L : qML} {R : qMR} {a1 : Int32} {a2 : Int32} {a3 : Int32} {a4 : Int32} {s0 : Int32} (kt : s0 = 0 → wkB l G (d + 1) n_X8_seatsThatSee Q 68 [.ref 0, .int a1, .int a2, .int a3, .int a4] [] I L R) (kf : ¬ s0 = 0 → wkB l G (d + 1) n_X8_seatsThatSee Q 61 [.ref 0, .int a1, .int a2, .int a3, .int a4] [] I L R) : wkB l G (d + 1) n_X8_seatsThatSee Q 58 [.ref 0, .int a1, .int a2, .int a3, .int a4] [.int s0] I L R :=
  (fun lv hl => q_if_eq (off := 10) (tgt := 68) (zd (i := .ifCond .eq (10)) (n := 3) (by decide +kernel)) (by decide) (fun h => (kt h) lv hl) (fun h => (kf h) lv hl))
theorem w_X8_seatsThatSee_61 {Q : qQ} {I : qMI} {L : qML} {R : qMR} {a1 : Int32} {a2 : Int32} {a3 : Int32} {a4 : Int32} (k : wkB l G (d + 1) n_X8_seatsThatSee Q 68 [.ref 0, .int a1, .int a2, .int (a3 ||| (1 <<< (a4 &&& 31))), .int a4] [] I L R) : wkB l G (d + 1) n_X8_seatsThatSee Q 61 [.ref 0, .int a1, .int a2, .int a3, .int a4] [] I L R :=
  bb_iload_n (n := 3) (i := 3) (zd (i := .iload_n 3) (n := 1) (by decide +kernel)) rfl rfl <|
  bb_lift (fun _ => q_iconst (n := 1) (zd (i := .iconst (1)) (n := 1) (by decide +kernel)) rfl) <|
  bb_iload (i := 4) (zd (i := .iload 4) (n := 2) (by decide +kernel)) rfl <|
  bb_lift (fun _ => q_ishl (zd (i := .ishl) (n := 1) (by decide +kernel))) <|
  bb_lift (fun _ => q_ior (zd (i := .ior) (n := 1) (by decide +kernel))) <|
  bb_istore_n (n := 3) (i := 3) (zd (i := .istore_n 3) (n := 1) (by decide +kernel)) rfl (by decide +kernel) (wkNl_i rfl) <|
  k
theorem w_X8_seatsThatSee_68 {Q : qQ} {I : qMI} {L : qML} {R : qMR} {a1 : Int32} {a2 : Int32} {a3 : Int32} {a4 : Int32} (k : wkB l G (d + 1) n_X8_seatsThatSee Q 20 [.ref 0, .int a1, .int a2, .int a3, .int (a4 + 1)] [] I L R) : wkB l G (d + 1) n_X8_seatsThatSee Q 68 [.ref 0, .int a1, .int a2, .int a3, .int a4] [] I L R :=
  bb_iinc (i := 4) (n := 1) (zd (i := .iinc 4 (1)) (n := 3) (by decide +kernel)) rfl rfl (by decide +kernel) (wkNl_i rfl) <|
  bb_lift (fun _ => q_goto (off := -51) (tgt := 20) (zd (i := .goto (-51)) (n := 3) (by decide +kernel)) (by decide)) k
theorem w_X8_seatsThatSee_74 {Q : qQ} {I : qMI} {L : qML} {R : qMR} {a1 : Int32} {a2 : Int32} {a3 : Int32} {a4 : Int32} (hQ : Q (some (.int a3)) 336 I L R) : wkB l G (d + 1) n_X8_seatsThatSee Q 74 [.ref 0, .int a1, .int a2, .int a3, .int a4] [] I L R :=
  bb_iload_n (n := 3) (i := 3) (zd (i := .iload_n 3) (n := 1) (by decide +kernel)) rfl rfl <|
  (fun lv hl => q_iret (zd (i := .ireturn) (n := 1) (by decide +kernel)) rfl rfl (Nat.le_refl _) (Nat.le_refl _) hQ)
theorem w_X8_seatsThatLent_0 {Q : qQ} {I : qMI} {L : qML} {R : qMR} {a1 : Int32} (k : wkB l G (d + 1) n_X8_seatsThatLent Q 4 [.ref 0, .int a1, .int 0, .int 0] [] I L R) : wkB l G (d + 1) n_X8_seatsThatLent Q 0 [.ref 0, .int a1, wkU, wkU] [] I L R :=
  bb_lift (fun _ => q_iconst (n := 0) (zd (i := .iconst (0)) (n := 1) (by decide +kernel)) rfl) <|
  bb_istore_n (n := 2) (i := 2) (zd (i := .istore_n 2) (n := 1) (by decide +kernel)) rfl (by decide +kernel) (wkNl_i rfl) <|
  bb_lift (fun _ => q_iconst (n := 0) (zd (i := .iconst (0)) (n := 1) (by decide +kernel)) rfl) <|
  bb_istore_n (n := 3) (i := 3) (zd (i := .istore_n 3) (n := 1) (by decide +kernel)) rfl (by decide +kernel) (wkNl_i rfl) <|
  k
theorem w_X8_seatsThatLent_4 {Q : qQ} {I : qMI} {L : qML} {R : qMR} {o : Nat} (ho : o = 9 ∨ o = 259) {a1 : Int32} {a2 : Int32} {a3 : Int32} (h1 : R 0 12 = some o) (kt : (I o 5) ≤ a3 → wkB l G (d + 1) n_X8_seatsThatLent Q 43 [.ref 0, .int a1, .int a2, .int a3] [] I L R) (kf : ¬ (I o 5) ≤ a3 → wkB l G (d + 1) n_X8_seatsThatLent Q 15 [.ref 0, .int a1, .int a2, .int a3] [] I L R) : wkB l G (d + 1) n_X8_seatsThatLent Q 4 [.ref 0, .int a1, .int a2, .int a3] [] I L R :=
  bb_iload_n (n := 3) (i := 3) (zd (i := .iload_n 3) (n := 1) (by decide +kernel)) rfl rfl <|
  bb_aload_n (n := 0) (i := 0) (zd (i := .aload_n 0) (n := 1) (by decide +kernel)) rfl rfl <|
  bb_getr (k := 0) (ci := 8) (j := 12) (idx := 71) (a := o) (zd (i := .getfield 71) (n := 3) (by decide +kernel)) (by decide +kernel) (by decide +kernel) (by decide +kernel) (by decide +kernel) rfl g464 h1 <|
  bb_geti (k := o) (ci := 0) (j := 5) (idx := 230) (zd (i := .getfield 230) (n := 3) (by decide +kernel)) (by rcases ho with rfl | rfl <;> decide +kernel) (by rcases ho with rfl | rfl <;> decide +kernel) (by decide +kernel) (by decide +kernel) rfl g288 <|
  (fun lv hl => q_icmp_ge (off := 31) (tgt := 43) (zd (i := .if_icmp .ge (31)) (n := 3) (by decide +kernel)) (by decide) (fun h => (kt h) lv hl) (fun h => (kf h) lv hl))
theorem w_X8_seatsThatLent_15 {Q : qQ} {I : qMI} {L : qML} {R : qMR} {a1 : Int32} {a2 : Int32} {a3 : Int32} (h1 : R 0 2 = some 21) (h2 : R 21 5 = some 26) {P : Int32 → qMI → qML → qMR → Prop} (hc : wkCi l G d n_X8_loanOf [.int a3, .int a1] I L R P) (kk : ∀ y I' L' R', P y I' L' R' → wkB l G (d + 1) n_X8_seatsThatLent Q 27 [.ref 0, .int a1, .int a2, .int a3] [.int y, .ref 26] I' L' R') : wkB l G (d + 1) n_X8_seatsThatLent Q 15 [.ref 0, .int a1, .int a2, .int a3] [] I L R :=
  bb_aload_n (n := 0) (i := 0) (zd (i := .aload_n 0) (n := 1) (by decide +kernel)) rfl rfl <|
  bb_getr (k := 0) (ci := 8) (j := 2) (idx := 26) (a := 21) (zd (i := .getfield 26) (n := 3) (by decide +kernel)) (by decide +kernel) (by decide +kernel) (by decide +kernel) (by decide +kernel) rfl g454 h1 <|
  bb_getr (k := 21) (ci := 4) (j := 5) (idx := 169) (a := 26) (zd (i := .getfield 169) (n := 3) (by decide +kernel)) (by decide +kernel) (by decide +kernel) (by decide +kernel) (by decide +kernel) rfl g383 h2 <|
  bb_iload_n (n := 3) (i := 3) (zd (i := .iload_n 3) (n := 1) (by decide +kernel)) rfl rfl <|
  bb_iload_n (n := 1) (i := 1) (zd (i := .iload_n 1) (n := 1) (by decide +kernel)) rfl rfl <|
  bb_callS (idx := 166) (N := n_X8_loanOf) (As := [.int a3, .int a1]) (st := [.ref 26]) (zd (i := .invokestatic 166) (n := 3) (by decide +kernel)) to_X8_loanOf g764 g765 (Nat.le_of_ble_eq_true rfl) rfl rfl hc (fun r I' L' R' hq => by obtain ⟨y, rfl, hp⟩ := hq; exact kk y I' L' R' hp)
theorem w_X8_seatsThatLent_27 {Q : qQ} {I : qMI} {L : qML} {R : qMR} {a1 : Int32} {a2 : Int32} {a3 : Int32} {s1 : Int32} (h1 : vp_in s1 36) (kt : (I 26 s1.toNatClampNeg) = 0 → wkB l G (d + 1) n_X8_seatsThatLent Q 37 [.ref 0, .int a1, .int a2, .int a3] [] I L R) (kf : ¬ (I 26 s1.toNatClampNeg) = 0 → wkB l G (d + 1) n_X8_seatsThatLent Q 31 [.ref 0, .int a1, .int a2, .int a3] [] I L R) : wkB l G (d + 1) n_X8_seatsThatLent Q 27 [.ref 0, .int a1, .int a2, .int a3] [.int s1, .ref 26] I L R :=
  bb_lift (fun _ => q_iald (k := 26) (zd (i := .iaload) (n := 1) (by decide +kernel)) (by decide +kernel) (by decide +kernel) h1) <|
  (fun lv hl => q_if_eq (off := 9) (tgt := 37) (zd (i := .ifCond .eq (9)) (n := 3) (by decide +kernel)) (by decide) (fun h => (kt h) lv hl) (fun h => (kf h) lv hl))
theorem w_X8_seatsThatLent_31 {Q : qQ} {I : qMI} {L : qML} {R : qMR} {a1 : Int32} {a2 : Int32} {a3 : Int32} (k : wkB l G (d + 1) n_X8_seatsThatLent Q 37 [.ref 0, .int a1, .int (a2 ||| (1 <<< (a3 &&& 31))), .int a3] [] I L R) : wkB l G (d + 1) n_X8_seatsThatLent Q 31 [.ref 0, .int a1, .int a2, .int a3] [] I L R :=
  bb_iload_n (n := 2) (i := 2) (zd (i := .iload_n 2) (n := 1) (by decide +kernel)) rfl rfl <|
  bb_lift (fun _ => q_iconst (n := 1) (zd (i := .iconst (1)) (n := 1) (by decide +kernel)) rfl) <|
  bb_iload_n (n := 3) (i := 3) (zd (i := .iload_n 3) (n := 1) (by decide +kernel)) rfl rfl <|
  bb_lift (fun _ => q_ishl (zd (i := .ishl) (n := 1) (by decide +kernel))) <|
  bb_lift (fun _ => q_ior (zd (i := .ior) (n := 1) (by decide +kernel))) <|
  bb_istore_n (n := 2) (i := 2) (zd (i := .istore_n 2) (n := 1) (by decide +kernel)) rfl (by decide +kernel) (wkNl_i rfl) <|
  k
theorem w_X8_seatsThatLent_37 {Q : qQ} {I : qMI} {L : qML} {R : qMR} {a1 : Int32} {a2 : Int32} {a3 : Int32} (k : wkB l G (d + 1) n_X8_seatsThatLent Q 4 [.ref 0, .int a1, .int a2, .int (a3 + 1)] [] I L R) : wkB l G (d + 1) n_X8_seatsThatLent Q 37 [.ref 0, .int a1, .int a2, .int a3] [] I L R :=
  bb_iinc (i := 3) (n := 1) (zd (i := .iinc 3 (1)) (n := 3) (by decide +kernel)) rfl rfl (by decide +kernel) (wkNl_i rfl) <|
  bb_lift (fun _ => q_goto (off := -36) (tgt := 4) (zd (i := .goto (-36)) (n := 3) (by decide +kernel)) (by decide)) k
theorem w_X8_seatsThatLent_43 {Q : qQ} {I : qMI} {L : qML} {R : qMR} {a1 : Int32} {a2 : Int32} {a3 : Int32} (hQ : Q (some (.int a2)) 336 I L R) : wkB l G (d + 1) n_X8_seatsThatLent Q 43 [.ref 0, .int a1, .int a2, .int a3] [] I L R :=
  bb_iload_n (n := 2) (i := 2) (zd (i := .iload_n 2) (n := 1) (by decide +kernel)) rfl rfl <|
  (fun lv hl => q_iret (zd (i := .ireturn) (n := 1) (by decide +kernel)) rfl rfl (Nat.le_refl _) (Nat.le_refl _) hQ)
theorem w_X8_thingsLentOn_0 {Q : qQ} {I : qMI} {L : qML} {R : qMR} {a1 : Int32} (k : wkB l G (d + 1) n_X8_thingsLentOn Q 4 [.ref 0, .int a1, .int 0, .int 0] [] I L R) : wkB l G (d + 1) n_X8_thingsLentOn Q 0 [.ref 0, .int a1, wkU, wkU] [] I L R :=
  bb_lift (fun _ => q_iconst (n := 0) (zd (i := .iconst (0)) (n := 1) (by decide +kernel)) rfl) <|
  bb_istore_n (n := 2) (i := 2) (zd (i := .istore_n 2) (n := 1) (by decide +kernel)) rfl (by decide +kernel) (wkNl_i rfl) <|
  bb_lift (fun _ => q_iconst (n := 0) (zd (i := .iconst (0)) (n := 1) (by decide +kernel)) rfl) <|
  bb_istore_n (n := 3) (i := 3) (zd (i := .istore_n 3) (n := 1) (by decide +kernel)) rfl (by decide +kernel) (wkNl_i rfl) <|
  k
theorem w_X8_thingsLentOn_4 {Q : qQ} {I : qMI} {L : qML} {R : qMR} {o : Nat} (ho : o = 9 ∨ o = 259) {a1 : Int32} {a2 : Int32} {a3 : Int32} (h1 : R 0 12 = some o) (kt : (I o 2) ≤ a3 → wkB l G (d + 1) n_X8_thingsLentOn Q 43 [.ref 0, .int a1, .int a2, .int a3] [] I L R) (kf : ¬ (I o 2) ≤ a3 → wkB l G (d + 1) n_X8_thingsLentOn Q 15 [.ref 0, .int a1, .int a2, .int a3] [] I L R) : wkB l G (d + 1) n_X8_thingsLentOn Q 4 [.ref 0, .int a1, .int a2, .int a3] [] I L R :=
  bb_iload_n (n := 3) (i := 3) (zd (i := .iload_n 3) (n := 1) (by decide +kernel)) rfl rfl <|
  bb_aload_n (n := 0) (i := 0) (zd (i := .aload_n 0) (n := 1) (by decide +kernel)) rfl rfl <|
  bb_getr (k := 0) (ci := 8) (j := 12) (idx := 71) (a := o) (zd (i := .getfield 71) (n := 3) (by decide +kernel)) (by decide +kernel) (by decide +kernel) (by decide +kernel) (by decide +kernel) rfl g464 h1 <|
  bb_geti (k := o) (ci := 0) (j := 2) (idx := 236) (zd (i := .getfield 236) (n := 3) (by decide +kernel)) (by rcases ho with rfl | rfl <;> decide +kernel) (by rcases ho with rfl | rfl <;> decide +kernel) (by decide +kernel) (by decide +kernel) rfl g280 <|
  (fun lv hl => q_icmp_ge (off := 31) (tgt := 43) (zd (i := .if_icmp .ge (31)) (n := 3) (by decide +kernel)) (by decide) (fun h => (kt h) lv hl) (fun h => (kf h) lv hl))
theorem w_X8_thingsLentOn_15 {Q : qQ} {I : qMI} {L : qML} {R : qMR} {a1 : Int32} {a2 : Int32} {a3 : Int32} (h1 : R 0 2 = some 21) (h2 : R 21 5 = some 26) {P : Int32 → qMI → qML → qMR → Prop} (hc : wkCi l G d n_X8_loanOf [.int a1, .int a3] I L R P) (kk : ∀ y I' L' R', P y I' L' R' → wkB l G (d + 1) n_X8_thingsLentOn Q 27 [.ref 0, .int a1, .int a2, .int a3] [.int y, .ref 26] I' L' R') : wkB l G (d + 1) n_X8_thingsLentOn Q 15 [.ref 0, .int a1, .int a2, .int a3] [] I L R :=
  bb_aload_n (n := 0) (i := 0) (zd (i := .aload_n 0) (n := 1) (by decide +kernel)) rfl rfl <|
  bb_getr (k := 0) (ci := 8) (j := 2) (idx := 26) (a := 21) (zd (i := .getfield 26) (n := 3) (by decide +kernel)) (by decide +kernel) (by decide +kernel) (by decide +kernel) (by decide +kernel) rfl g454 h1 <|
  bb_getr (k := 21) (ci := 4) (j := 5) (idx := 169) (a := 26) (zd (i := .getfield 169) (n := 3) (by decide +kernel)) (by decide +kernel) (by decide +kernel) (by decide +kernel) (by decide +kernel) rfl g383 h2 <|
  bb_iload_n (n := 1) (i := 1) (zd (i := .iload_n 1) (n := 1) (by decide +kernel)) rfl rfl <|
  bb_iload_n (n := 3) (i := 3) (zd (i := .iload_n 3) (n := 1) (by decide +kernel)) rfl rfl <|
  bb_callS (idx := 166) (N := n_X8_loanOf) (As := [.int a1, .int a3]) (st := [.ref 26]) (zd (i := .invokestatic 166) (n := 3) (by decide +kernel)) to_X8_loanOf g764 g765 (Nat.le_of_ble_eq_true rfl) rfl rfl hc (fun r I' L' R' hq => by obtain ⟨y, rfl, hp⟩ := hq; exact kk y I' L' R' hp)
theorem w_X8_thingsLentOn_27 {Q : qQ} {I : qMI} {L : qML} {R : qMR} {a1 : Int32} {a2 : Int32} {a3 : Int32} {s1 : Int32} (h1 : vp_in s1 36) (kt : (I 26 s1.toNatClampNeg) = 0 → wkB l G (d + 1) n_X8_thingsLentOn Q 37 [.ref 0, .int a1, .int a2, .int a3] [] I L R) (kf : ¬ (I 26 s1.toNatClampNeg) = 0 → wkB l G (d + 1) n_X8_thingsLentOn Q 31 [.ref 0, .int a1, .int a2, .int a3] [] I L R) : wkB l G (d + 1) n_X8_thingsLentOn Q 27 [.ref 0, .int a1, .int a2, .int a3] [.int s1, .ref 26] I L R :=
  bb_lift (fun _ => q_iald (k := 26) (zd (i := .iaload) (n := 1) (by decide +kernel)) (by decide +kernel) (by decide +kernel) h1) <|
  (fun lv hl => q_if_eq (off := 9) (tgt := 37) (zd (i := .ifCond .eq (9)) (n := 3) (by decide +kernel)) (by decide) (fun h => (kt h) lv hl) (fun h => (kf h) lv hl))
theorem w_X8_thingsLentOn_31 {Q : qQ} {I : qMI} {L : qML} {R : qMR} {a1 : Int32} {a2 : Int32} {a3 : Int32} (k : wkB l G (d + 1) n_X8_thingsLentOn Q 37 [.ref 0, .int a1, .int (a2 ||| (1 <<< (a3 &&& 31))), .int a3] [] I L R) : wkB l G (d + 1) n_X8_thingsLentOn Q 31 [.ref 0, .int a1, .int a2, .int a3] [] I L R :=
  bb_iload_n (n := 2) (i := 2) (zd (i := .iload_n 2) (n := 1) (by decide +kernel)) rfl rfl <|
  bb_lift (fun _ => q_iconst (n := 1) (zd (i := .iconst (1)) (n := 1) (by decide +kernel)) rfl) <|
  bb_iload_n (n := 3) (i := 3) (zd (i := .iload_n 3) (n := 1) (by decide +kernel)) rfl rfl <|
  bb_lift (fun _ => q_ishl (zd (i := .ishl) (n := 1) (by decide +kernel))) <|
  bb_lift (fun _ => q_ior (zd (i := .ior) (n := 1) (by decide +kernel))) <|
  bb_istore_n (n := 2) (i := 2) (zd (i := .istore_n 2) (n := 1) (by decide +kernel)) rfl (by decide +kernel) (wkNl_i rfl) <|
  k
theorem w_X8_thingsLentOn_37 {Q : qQ} {I : qMI} {L : qML} {R : qMR} {a1 : Int32} {a2 : Int32} {a3 : Int32} (k : wkB l G (d + 1) n_X8_thingsLentOn Q 4 [.ref 0, .int a1, .int a2, .int (a3 + 1)] [] I L R) : wkB l G (d + 1) n_X8_thingsLentOn Q 37 [.ref 0, .int a1, .int a2, .int a3] [] I L R :=
  bb_iinc (i := 3) (n := 1) (zd (i := .iinc 3 (1)) (n := 3) (by decide +kernel)) rfl rfl (by decide +kernel) (wkNl_i rfl) <|
  bb_lift (fun _ => q_goto (off := -36) (tgt := 4) (zd (i := .goto (-36)) (n := 3) (by decide +kernel)) (by decide)) k
theorem w_X8_thingsLentOn_43 {Q : qQ} {I : qMI} {L : qML} {R : qMR} {a1 : Int32} {a2 : Int32} {a3 : Int32} (hQ : Q (some (.int a2)) 336 I L R) : wkB l G (d + 1) n_X8_thingsLentOn Q 43 [.ref 0, .int a1, .int a2, .int a3] [] I L R :=
  bb_iload_n (n := 2) (i := 2) (zd (i := .iload_n 2) (n := 1) (by decide +kernel)) rfl rfl <|
  (fun lv hl => q_iret (zd (i := .ireturn) (n := 1) (by decide +kernel)) rfl rfl (Nat.le_refl _) (Nat.le_refl _) hQ)
theorem w_X8_thingsSeenFrom_0 {Q : qQ} {I : qMI} {L : qML} {R : qMR} {o : Nat} (ho : o = 9 ∨ o = 259) {a1 : Int32} {a2 : Int32} (h1 : R 0 12 = some o) (h2 : R 0 2 = some 21) {P : Int32 → qMI → qML → qMR → Prop} (hc : wkCi l G d n_X0_thingsSeenFrom [.ref o, .int a1, .int (I 21 0), .int a2] I L R P) (kk : ∀ y I' L' R', P y I' L' R' → wkB l G (d + 1) n_X8_thingsSeenFrom Q 16 [.ref 0, .int a1, .int a2] [.int y] I' L' R') : wkB l G (d + 1) n_X8_thingsSeenFrom Q 0 [.ref 0, .int a1, .int a2] [] I L R :=
  bb_aload_n (n := 0) (i := 0) (zd (i := .aload_n 0) (n := 1) (by decide +kernel)) rfl rfl <|
  bb_getr (k := 0) (ci := 8) (j := 12) (idx := 71) (a := o) (zd (i := .getfield 71) (n := 3) (by decide +kernel)) (by decide +kernel) (by decide +kernel) (by decide +kernel) (by decide +kernel) rfl g464 h1 <|
  bb_iload_n (n := 1) (i := 1) (zd (i := .iload_n 1) (n := 1) (by decide +kernel)) rfl rfl <|
  bb_aload_n (n := 0) (i := 0) (zd (i := .aload_n 0) (n := 1) (by decide +kernel)) rfl rfl <|
  bb_getr (k := 0) (ci := 8) (j := 2) (idx := 26) (a := 21) (zd (i := .getfield 26) (n := 3) (by decide +kernel)) (by decide +kernel) (by decide +kernel) (by decide +kernel) (by decide +kernel) rfl g454 h2 <|
  bb_geti (k := 21) (ci := 4) (j := 0) (idx := 140) (zd (i := .getfield 140) (n := 3) (by decide +kernel)) (by decide +kernel) (by decide +kernel) (by decide +kernel) (by decide +kernel) rfl g368 <|
  bb_iload_n (n := 2) (i := 2) (zd (i := .iload_n 2) (n := 1) (by decide +kernel)) rfl rfl <|
  bb_callV (idx := 336) (k := o) (ci := 0) (N := n_X0_thingsSeenFrom) (As := [.int a1, .int (I 21 0), .int a2]) (st := []) (zd (i := .invokevirtual 336) (n := 3) (by decide +kernel)) to_X0_thingsSeenFrom g779 g780 g781 (Nat.le_of_ble_eq_true rfl) (by rcases ho with rfl | rfl <;> decide +kernel) (by rcases ho with rfl | rfl <;> decide +kernel) (by decide +kernel) rfl rfl rfl hc (fun r I' L' R' hq => by obtain ⟨y, rfl, hp⟩ := hq; exact kk y I' L' R' hp)
theorem w_X8_thingsSeenFrom_16 {Q : qQ} {I : qMI} {L : qML} {R : qMR} {a1 : Int32} {a2 : Int32} {s0 : Int32} (hQ : Q (some (.int s0)) 336 I L R) : wkB l G (d + 1) n_X8_thingsSeenFrom Q 16 [.ref 0, .int a1, .int a2] [.int s0] I L R :=
  (fun lv hl => q_iret (zd (i := .ireturn) (n := 1) (by decide +kernel)) rfl rfl (Nat.le_refl _) (Nat.le_refl _) hQ)
theorem w_X8_thingsSeen_0 {Q : qQ} {I : qMI} {L : qML} {R : qMR} {o : Nat} (ho : o = 9 ∨ o = 259) {a1 : Int32} (h1 : R 0 12 = some o) {P : Int32 → qMI → qML → qMR → Prop} (hc : wkCi l G d n_X0_heat [.ref o, .int a1] I L R P) (kk : ∀ y I' L' R', P y I' L' R' → wkB l G (d + 1) n_X8_thingsSeen Q 8 [.ref 0, .int a1, wkU, wkU, wkU] [.int y] I' L' R') : wkB l G (d + 1) n_X8_thingsSeen Q 0 [.ref 0, .int a1, wkU, wkU, wkU] [] I L R :=
  bb_aload_n (n := 0) (i := 0) (zd (i := .aload_n 0) (n := 1) (by decide +kernel)) rfl rfl <|
  bb_getr (k := 0) (ci := 8) (j := 12) (idx := 71) (a := o) (zd (i := .getfield 71) (n := 3) (by decide +kernel)) (by decide +kernel) (by decide +kernel) (by decide +kernel) (by decide +kernel) rfl g464 h1 <|
  bb_iload_n (n := 1) (i := 1) (zd (i := .iload_n 1) (n := 1) (by decide +kernel)) rfl rfl <|
  bb_callV (idx := 143) (k := o) (ci := 0) (N := n_X0_heat) (As := [.int a1]) (st := []) (zd (i := .invokevirtual 143) (n := 3) (by decide +kernel)) to_X0_heat g716 g717 g718 (Nat.le_of_ble_eq_true rfl) (by rcases ho with rfl | rfl <;> decide +kernel) (by rcases ho with rfl | rfl <;> decide +kernel) (by decide +kernel) rfl rfl rfl hc (fun r I' L' R' hq => by obtain ⟨y, rfl, hp⟩ := hq; exact kk y I' L' R' hp)
theorem w_X8_thingsSeen_8 {Q : qQ} {I : qMI} {L : qML} {R : qMR} {a1 : Int32} {s0 : Int32} (k : wkB l G (d + 1) n_X8_thingsSeen Q 14 [.ref 0, .int a1, .int s0, .int 0, .int 0] [] I L R) : wkB l G (d + 1) n_X8_thingsSeen Q 8 [.ref 0, .int a1, wkU, wkU, wkU] [.int s0] I L R :=
  bb_istore_n (n := 2) (i := 2) (zd (i := .istore_n 2) (n := 1) (by decide +kernel)) rfl (by decide +kernel) (wkNl_i rfl) <|
  bb_lift (fun _ => q_iconst (n := 0) (zd (i := .iconst (0)) (n := 1) (by decide +kernel)) rfl) <|
  bb_istore_n (n := 3) (i := 3) (zd (i := .istore_n 3) (n := 1) (by decide +kernel)) rfl (by decide +kernel) (wkNl_i rfl) <|
  bb_lift (fun _ => q_iconst (n := 0) (zd (i := .iconst (0)) (n := 1) (by decide +kernel)) rfl) <|
  bb_istore (i := 4) (zd (i := .istore 4) (n := 2) (by decide +kernel)) (by decide +kernel) (wkNl_i rfl) <|
  k
theorem w_X8_thingsSeen_14 {Q : qQ} {I : qMI} {L : qML} {R : qMR} {o : Nat} (ho : o = 9 ∨ o = 259) {a1 : Int32} {a2 : Int32} {a3 : Int32} {a4 : Int32} (h1 : R 0 12 = some o) (kt : (I o 5) ≤ a4 → wkB l G (d + 1) n_X8_thingsSeen Q 54 [.ref 0, .int a1, .int a2, .int a3, .int a4] [] I L R) (kf : ¬ (I o 5) ≤ a4 → wkB l G (d + 1) n_X8_thingsSeen Q 26 [.ref 0, .int a1, .int a2, .int a3, .int a4] [] I L R) : wkB l G (d + 1) n_X8_thingsSeen Q 14 [.ref 0, .int a1, .int a2, .int a3, .int a4] [] I L R :=
  bb_iload (i := 4) (zd (i := .iload 4) (n := 2) (by decide +kernel)) rfl <|
  bb_aload_n (n := 0) (i := 0) (zd (i := .aload_n 0) (n := 1) (by decide +kernel)) rfl rfl <|
  bb_getr (k := 0) (ci := 8) (j := 12) (idx := 71) (a := o) (zd (i := .getfield 71) (n := 3) (by decide +kernel)) (by decide +kernel) (by decide +kernel) (by decide +kernel) (by decide +kernel) rfl g464 h1 <|
  bb_geti (k := o) (ci := 0) (j := 5) (idx := 230) (zd (i := .getfield 230) (n := 3) (by decide +kernel)) (by rcases ho with rfl | rfl <;> decide +kernel) (by rcases ho with rfl | rfl <;> decide +kernel) (by decide +kernel) (by decide +kernel) rfl g288 <|
  (fun lv hl => q_icmp_ge (off := 31) (tgt := 54) (zd (i := .if_icmp .ge (31)) (n := 3) (by decide +kernel)) (by decide) (fun h => (kt h) lv hl) (fun h => (kf h) lv hl))
theorem w_X8_thingsSeen_26 {Q : qQ} {I : qMI} {L : qML} {R : qMR} {o : Nat} (ho : o = 9 ∨ o = 259) {a1 : Int32} {a2 : Int32} {a3 : Int32} {a4 : Int32} (h1 : R 0 12 = some o) (h2 : R 0 2 = some 21) (h3 : R 21 1 = some 22) (h4 : vp_in a4 6) {P : Int32 → qMI → qML → qMR → Prop} (hc : wkCi l G d n_X0_thingsSeenFrom [.ref o, .int (I 22 a4.toNatClampNeg), .int a1, .int a2] I L R P) (kk : ∀ y I' L' R', P y I' L' R' → wkB l G (d + 1) n_X8_thingsSeen Q 46 [.ref 0, .int a1, .int a2, .int a3, .int a4] [.int y, .int a3] I' L' R') : wkB l G (d + 1) n_X8_thingsSeen Q 26 [.ref 0, .int a1, .int a2, .int a3, .int a4] [] I L R :=
  bb_iload_n (n := 3) (i := 3) (zd (i := .iload_n 3) (n := 1) (by decide +kernel)) rfl rfl <|
  bb_aload_n (n := 0) (i := 0) (zd (i := .aload_n 0) (n := 1) (by decide +kernel)) rfl rfl <|
  bb_getr (k := 0) (ci := 8) (j := 12) (idx := 71) (a := o) (zd (i := .getfield 71) (n := 3) (by decide +kernel)) (by decide +kernel) (by decide +kernel) (by decide +kernel) (by decide +kernel) rfl g464 h1 <|
  bb_aload_n (n := 0) (i := 0) (zd (i := .aload_n 0) (n := 1) (by decide +kernel)) rfl rfl <|
  bb_getr (k := 0) (ci := 8) (j := 2) (idx := 26) (a := 21) (zd (i := .getfield 26) (n := 3) (by decide +kernel)) (by decide +kernel) (by decide +kernel) (by decide +kernel) (by decide +kernel) rfl g454 h2 <|
  bb_getr (k := 21) (ci := 4) (j := 1) (idx := 134) (a := 22) (zd (i := .getfield 134) (n := 3) (by decide +kernel)) (by decide +kernel) (by decide +kernel) (by decide +kernel) (by decide +kernel) rfl g371 h3 <|
  bb_iload (i := 4) (zd (i := .iload 4) (n := 2) (by decide +kernel)) rfl <|
  bb_lift (fun _ => q_iald (k := 22) (zd (i := .iaload) (n := 1) (by decide +kernel)) (by decide +kernel) (by decide +kernel) h4) <|
  bb_iload_n (n := 1) (i := 1) (zd (i := .iload_n 1) (n := 1) (by decide +kernel)) rfl rfl <|
  bb_iload_n (n := 2) (i := 2) (zd (i := .iload_n 2) (n := 1) (by decide +kernel)) rfl rfl <|
  bb_callV (idx := 336) (k := o) (ci := 0) (N := n_X0_thingsSeenFrom) (As := [.int (I 22 a4.toNatClampNeg), .int a1, .int a2]) (st := [.int a3]) (zd (i := .invokevirtual 336) (n := 3) (by decide +kernel)) to_X0_thingsSeenFrom g779 g780 g781 (Nat.le_of_ble_eq_true rfl) (by rcases ho with rfl | rfl <;> decide +kernel) (by rcases ho with rfl | rfl <;> decide +kernel) (by decide +kernel) rfl rfl rfl hc (fun r I' L' R' hq => by obtain ⟨y, rfl, hp⟩ := hq; exact kk y I' L' R' hp)
theorem w_X8_thingsSeen_46 {Q : qQ} {I : qMI} {L : qML} {R : qMR} {a1 : Int32} {a2 : Int32} {a3 : Int32} {a4 : Int32} {s0 : Int32} {s1 : Int32} (k : wkB l G (d + 1) n_X8_thingsSeen Q 14 [.ref 0, .int a1, .int a2, .int (s0 ||| s1), .int (a4 + 1)] [] I L R) : wkB l G (d + 1) n_X8_thingsSeen Q 46 [.ref 0, .int a1, .int a2, .int a3, .int a4] [.int s1, .int s0] I L R :=
  bb_lift (fun _ => q_ior (zd (i := .ior) (n := 1) (by decide +kernel))) <|
  bb_istore_n (n := 3) (i := 3) (zd (i := .istore_n 3) (n := 1) (by decide +kernel)) rfl (by decide +kernel) (wkNl_i rfl) <|
  bb_iinc (i := 4) (n := 1) (zd (i := .iinc 4 (1)) (n := 3) (by decide +kernel)) rfl rfl (by decide +kernel) (wkNl_i rfl) <|
  bb_lift (fun _ => q_goto (off := -37) (tgt := 14) (zd (i := .goto (-37)) (n := 3) (by decide +kernel)) (by decide)) k
theorem w_X8_thingsSeen_54 {Q : qQ} {I : qMI} {L : qML} {R : qMR} {a1 : Int32} {a2 : Int32} {a3 : Int32} {a4 : Int32} (hQ : Q (some (.int a3)) 336 I L R) : wkB l G (d + 1) n_X8_thingsSeen Q 54 [.ref 0, .int a1, .int a2, .int a3, .int a4] [] I L R :=
  bb_iload_n (n := 3) (i := 3) (zd (i := .iload_n 3) (n := 1) (by decide +kernel)) rfl rfl <|
  (fun lv hl => q_iret (zd (i := .ireturn) (n := 1) (by decide +kernel)) rfl rfl (Nat.le_refl _) (Nat.le_refl _) hQ)
theorem w_X8_heldSlots_0 {Q : qQ} {I : qMI} {L : qML} {R : qMR}  (k : wkB l G (d + 1) n_X8_heldSlots Q 4 [.ref 0, .int 0, .int 0] [] I L R) : wkB l G (d + 1) n_X8_heldSlots Q 0 [.ref 0, wkU, wkU] [] I L R :=
  bb_lift (fun _ => q_iconst (n := 0) (zd (i := .iconst (0)) (n := 1) (by decide +kernel)) rfl) <|
  bb_istore_n (n := 1) (i := 1) (zd (i := .istore_n 1) (n := 1) (by decide +kernel)) rfl (by decide +kernel) (wkNl_r rfl) <|
  bb_lift (fun _ => q_iconst (n := 0) (zd (i := .iconst (0)) (n := 1) (by decide +kernel)) rfl) <|
  bb_istore_n (n := 2) (i := 2) (zd (i := .istore_n 2) (n := 1) (by decide +kernel)) rfl (by decide +kernel) (wkNl_i rfl) <|
  k
theorem w_X8_heldSlots_4 {Q : qQ} {I : qMI} {L : qML} {R : qMR} {a1 : Int32} {a2 : Int32} (kt : 3 ≤ a2 → wkB l G (d + 1) n_X8_heldSlots Q 32 [.ref 0, .int a1, .int a2] [] I L R) (kf : ¬ 3 ≤ a2 → wkB l G (d + 1) n_X8_heldSlots Q 9 [.ref 0, .int a1, .int a2] [] I L R) : wkB l G (d + 1) n_X8_heldSlots Q 4 [.ref 0, .int a1, .int a2] [] I L R :=
  bb_iload_n (n := 2) (i := 2) (zd (i := .iload_n 2) (n := 1) (by decide +kernel)) rfl rfl <|
  bb_lift (fun _ => q_iconst (n := 3) (zd (i := .iconst (3)) (n := 1) (by decide +kernel)) rfl) <|
  (fun lv hl => q_icmp_ge (off := 26) (tgt := 32) (zd (i := .if_icmp .ge (26)) (n := 3) (by decide +kernel)) (by decide) (fun h => (kt h) lv hl) (fun h => (kf h) lv hl))
theorem w_X8_heldSlots_9 {Q : qQ} {I : qMI} {L : qML} {R : qMR} {a1 : Int32} {a2 : Int32} (h1 : R 0 6 = some 248) (h2 : vp_in a2 3) (kt : (I 248 a2.toNatClampNeg) = 0 → wkB l G (d + 1) n_X8_heldSlots Q 23 [.ref 0, .int a1, .int a2] [.int a1] I L R) (kf : ¬ (I 248 a2.toNatClampNeg) = 0 → wkB l G (d + 1) n_X8_heldSlots Q 19 [.ref 0, .int a1, .int a2] [.int a1] I L R) : wkB l G (d + 1) n_X8_heldSlots Q 9 [.ref 0, .int a1, .int a2] [] I L R :=
  bb_iload_n (n := 1) (i := 1) (zd (i := .iload_n 1) (n := 1) (by decide +kernel)) rfl rfl <|
  bb_aload_n (n := 0) (i := 0) (zd (i := .aload_n 0) (n := 1) (by decide +kernel)) rfl rfl <|
  bb_getr (k := 0) (ci := 8) (j := 6) (idx := 44) (a := 248) (zd (i := .getfield 44) (n := 3) (by decide +kernel)) (by decide +kernel) (by decide +kernel) (by decide +kernel) (by decide +kernel) rfl g458 h1 <|
  bb_iload_n (n := 2) (i := 2) (zd (i := .iload_n 2) (n := 1) (by decide +kernel)) rfl rfl <|
  bb_lift (fun _ => q_zald (k := 248) (zd (i := .baload) (n := 1) (by decide +kernel)) (by decide +kernel) (by decide +kernel) h2) <|
  (fun lv hl => q_if_eq (off := 7) (tgt := 23) (zd (i := .ifCond .eq (7)) (n := 3) (by decide +kernel)) (by decide) (fun h => (kt h) lv hl) (fun h => (kf h) lv hl))
theorem w_X8_heldSlots_19 {Q : qQ} {I : qMI} {L : qML} {R : qMR} {a1 : Int32} {a2 : Int32} {s0 : Int32} (k : wkB l G (d + 1) n_X8_heldSlots Q 24 [.ref 0, .int a1, .int a2] [.int 1, .int s0] I L R) : wkB l G (d + 1) n_X8_heldSlots Q 19 [.ref 0, .int a1, .int a2] [.int s0] I L R :=
  bb_lift (fun _ => q_iconst (n := 1) (zd (i := .iconst (1)) (n := 1) (by decide +kernel)) rfl) <|
  bb_lift (fun _ => q_goto (off := 4) (tgt := 24) (zd (i := .goto (4)) (n := 3) (by decide +kernel)) (by decide)) k
theorem w_X8_heldSlots_23 {Q : qQ} {I : qMI} {L : qML} {R : qMR} {a1 : Int32} {a2 : Int32} {s0 : Int32} (k : wkB l G (d + 1) n_X8_heldSlots Q 24 [.ref 0, .int a1, .int a2] [.int 0, .int s0] I L R) : wkB l G (d + 1) n_X8_heldSlots Q 23 [.ref 0, .int a1, .int a2] [.int s0] I L R :=
  bb_lift (fun _ => q_iconst (n := 0) (zd (i := .iconst (0)) (n := 1) (by decide +kernel)) rfl) <|
  k
theorem w_X8_heldSlots_24 {Q : qQ} {I : qMI} {L : qML} {R : qMR} {a1 : Int32} {a2 : Int32} {s0 : Int32} {s1 : Int32} (k : wkB l G (d + 1) n_X8_heldSlots Q 4 [.ref 0, .int (s0 + s1), .int (a2 + 1)] [] I L R) : wkB l G (d + 1) n_X8_heldSlots Q 24 [.ref 0, .int a1, .int a2] [.int s1, .int s0] I L R :=
  bb_lift (fun _ => q_iadd (zd (i := .iadd) (n := 1) (by decide +kernel))) <|
  bb_istore_n (n := 1) (i := 1) (zd (i := .istore_n 1) (n := 1) (by decide +kernel)) rfl (by decide +kernel) (wkNl_r rfl) <|
  bb_iinc (i := 2) (n := 1) (zd (i := .iinc 2 (1)) (n := 3) (by decide +kernel)) rfl rfl (by decide +kernel) (wkNl_i rfl) <|
  bb_lift (fun _ => q_goto (off := -25) (tgt := 4) (zd (i := .goto (-25)) (n := 3) (by decide +kernel)) (by decide)) k
theorem w_X8_heldSlots_32 {Q : qQ} {I : qMI} {L : qML} {R : qMR} {a1 : Int32} {a2 : Int32} (hQ : Q (some (.int a1)) 336 I L R) : wkB l G (d + 1) n_X8_heldSlots Q 32 [.ref 0, .int a1, .int a2] [] I L R :=
  bb_iload_n (n := 1) (i := 1) (zd (i := .iload_n 1) (n := 1) (by decide +kernel)) rfl rfl <|
  (fun lv hl => q_iret (zd (i := .ireturn) (n := 1) (by decide +kernel)) rfl rfl (Nat.le_refl _) (Nat.le_refl _) hQ)
theorem w_X8_thing_0 {Q : qQ} {I : qMI} {L : qML} {R : qMR} {a1 : Int32} {a2 : Int32} {P : Int32 → qMI → qML → qMR → Prop} (hc : wkCi l G d n_X8_isThing [.ref 0, .int a1] I L R P) (kk : ∀ y I' L' R', P y I' L' R' → wkB l G (d + 1) n_X8_thing Q 5 [.ref 0, .int a1, .int a2] [.int y] I' L' R') : wkB l G (d + 1) n_X8_thing Q 0 [.ref 0, .int a1, .int a2] [] I L R :=
  bb_aload_n (n := 0) (i := 0) (zd (i := .aload_n 0) (n := 1) (by decide +kernel)) rfl rfl <|
  bb_iload_n (n := 1) (i := 1) (zd (i := .iload_n 1) (n := 1) (by decide +kernel)) rfl rfl <|
  bb_callV (idx := 115) (k := 0) (ci := 8) (N := n_X8_isThing) (As := [.int a1]) (st := []) (zd (i := .invokevirtual 115) (n := 3) (by decide +kernel)) to_X8_isThing g708 g710 g17 (Nat.le_of_ble_eq_true rfl) (by decide +kernel) (by decide +kernel) (by decide +kernel) rfl rfl rfl hc (fun r I' L' R' hq => by obtain ⟨y, rfl, hp⟩ := hq; exact kk y I' L' R' hp)
theorem w_X8_thing_5 {Q : qQ} {I : qMI} {L : qML} {R : qMR} {a1 : Int32} {a2 : Int32} {s0 : Int32} (kt : ¬ s0 = 0 → wkB l G (d + 1) n_X8_thing Q 10 [.ref 0, .int a1, .int a2] [] I L R) (kf : s0 = 0 → wkB l G (d + 1) n_X8_thing Q 8 [.ref 0, .int a1, .int a2] [] I L R) : wkB l G (d + 1) n_X8_thing Q 5 [.ref 0, .int a1, .int a2] [.int s0] I L R :=
  (fun lv hl => q_if_ne (off := 5) (tgt := 10) (zd (i := .ifCond .ne (5)) (n := 3) (by decide +kernel)) (by decide) (fun h => (kt h) lv hl) (fun h => (kf h) lv hl))
theorem w_X8_thing_8 {Q : qQ} {I : qMI} {L : qML} {R : qMR} {a1 : Int32} {a2 : Int32} (hQ : Q (some (.int (-1))) 336 I L R) : wkB l G (d + 1) n_X8_thing Q 8 [.ref 0, .int a1, .int a2] [] I L R :=
  bb_lift (fun _ => q_iconst (n := -1) (zd (i := .iconst (-1)) (n := 1) (by decide +kernel)) rfl) <|
  (fun lv hl => q_iret (zd (i := .ireturn) (n := 1) (by decide +kernel)) rfl rfl (Nat.le_refl _) (Nat.le_refl _) hQ)
theorem w_X8_thing_10 {Q : qQ} {I : qMI} {L : qML} {R : qMR} {a1 : Int32} {a2 : Int32} (k : qSwt (fun tg => wkB l G (d + 1) n_X8_thing Q tg [.ref 0, .int a1, .int a2] [] I L R) a2 0 [40, 50, 60, 66] 72) : wkB l G (d + 1) n_X8_thing Q 10 [.ref 0, .int a1, .int a2] [] I L R :=
  bb_iload_n (n := 2) (i := 2) (zd (i := .iload_n 2) (n := 1) (by decide +kernel)) rfl rfl <|
  bb_table (v := 0) (df := 72) (len := 29) (dflt := 61) (lo := 0) (hi := 3) (offs := #[29, 39, 49, 55]) (tgts := [40, 50, 60, 66]) (zd (i := .tableswitch (61) (0) (3) #[29, 39, 49, 55]) (n := 29) (by decide +kernel)) rfl rfl (by decide +kernel) (by decide +kernel) (by decide +kernel) k
theorem w_X8_thing_40 {Q : qQ} {I : qMI} {L : qML} {R : qMR} {o : Nat} (ho : o = 9 ∨ o = 259) {a1 : Int32} {a2 : Int32} (h1 : R 0 12 = some o) (h2 : R o 3 = some (o + 2)) (h3 : vp_in a1 6) (hQ : Q (some (.int (I (o + 2) a1.toNatClampNeg))) 336 I L R) : wkB l G (d + 1) n_X8_thing Q 40 [.ref 0, .int a1, .int a2] [] I L R :=
  bb_aload_n (n := 0) (i := 0) (zd (i := .aload_n 0) (n := 1) (by decide +kernel)) rfl rfl <|
  bb_getr (k := 0) (ci := 8) (j := 12) (idx := 71) (a := o) (zd (i := .getfield 71) (n := 3) (by decide +kernel)) (by decide +kernel) (by decide +kernel) (by decide +kernel) (by decide +kernel) rfl g464 h1 <|
  bb_getr (k := o) (ci := 0) (j := 3) (idx := 118) (a := (o + 2)) (zd (i := .getfield 118) (n := 3) (by decide +kernel)) (by rcases ho with rfl | rfl <;> decide +kernel) (by rcases ho with rfl | rfl <;> decide +kernel) (by decide +kernel) (by decide +kernel) rfl g282 h2 <|
  bb_iload_n (n := 1) (i := 1) (zd (i := .iload_n 1) (n := 1) (by decide +kernel)) rfl rfl <|
  bb_lift (fun _ => q_iald (k := (o + 2)) (zd (i := .iaload) (n := 1) (by decide +kernel)) (by rcases ho with rfl | rfl <;> decide +kernel) (by rcases ho with rfl | rfl <;> decide +kernel) (by have hz := h3; rcases ho with rfl | rfl <;> exact hz)) <|
  (fun lv hl => q_iret (zd (i := .ireturn) (n := 1) (by decide +kernel)) rfl rfl (Nat.le_refl _) (Nat.le_refl _) hQ)
theorem w_X8_thing_50 {Q : qQ} {I : qMI} {L : qML} {R : qMR} {o : Nat} (ho : o = 9 ∨ o = 259) {a1 : Int32} {a2 : Int32} (h1 : R 0 12 = some o) (h2 : R o 4 = some (o + 3)) (h3 : vp_in a1 6) (hQ : Q (some (.int (I (o + 3) a1.toNatClampNeg))) 336 I L R) : wkB l G (d + 1) n_X8_thing Q 50 [.ref 0, .int a1, .int a2] [] I L R :=
  bb_aload_n (n := 0) (i := 0) (zd (i := .aload_n 0) (n := 1) (by decide +kernel)) rfl rfl <|
  bb_getr (k := 0) (ci := 8) (j := 12) (idx := 71) (a := o) (zd (i := .getfield 71) (n := 3) (by decide +kernel)) (by decide +kernel) (by decide +kernel) (by decide +kernel) (by decide +kernel) rfl g464 h1 <|
  bb_getr (k := o) (ci := 0) (j := 4) (idx := 121) (a := (o + 3)) (zd (i := .getfield 121) (n := 3) (by decide +kernel)) (by rcases ho with rfl | rfl <;> decide +kernel) (by rcases ho with rfl | rfl <;> decide +kernel) (by decide +kernel) (by decide +kernel) rfl g284 h2 <|
  bb_iload_n (n := 1) (i := 1) (zd (i := .iload_n 1) (n := 1) (by decide +kernel)) rfl rfl <|
  bb_lift (fun _ => q_iald (k := (o + 3)) (zd (i := .iaload) (n := 1) (by decide +kernel)) (by rcases ho with rfl | rfl <;> decide +kernel) (by rcases ho with rfl | rfl <;> decide +kernel) (by have hz := h3; rcases ho with rfl | rfl <;> exact hz)) <|
  (fun lv hl => q_iret (zd (i := .ireturn) (n := 1) (by decide +kernel)) rfl rfl (Nat.le_refl _) (Nat.le_refl _) hQ)
theorem w_X8_thing_60 {Q : qQ} {I : qMI} {L : qML} {R : qMR} {a1 : Int32} {a2 : Int32} {P : Int32 → qMI → qML → qMR → Prop} (hc : wkCi l G d n_X8_seatsThatSee [.ref 0, .int a1] I L R P) (kk : ∀ y I' L' R', P y I' L' R' → wkB l G (d + 1) n_X8_thing Q 65 [.ref 0, .int a1, .int a2] [.int y] I' L' R') : wkB l G (d + 1) n_X8_thing Q 60 [.ref 0, .int a1, .int a2] [] I L R :=
  bb_aload_n (n := 0) (i := 0) (zd (i := .aload_n 0) (n := 1) (by decide +kernel)) rfl rfl <|
  bb_iload_n (n := 1) (i := 1) (zd (i := .iload_n 1) (n := 1) (by decide +kernel)) rfl rfl <|
  bb_callV (idx := 124) (k := 0) (ci := 8) (N := n_X8_seatsThatSee) (As := [.int a1]) (st := []) (zd (i := .invokevirtual 124) (n := 3) (by decide +kernel)) to_X8_seatsThatSee g712 g714 g18 (Nat.le_of_ble_eq_true rfl) (by decide +kernel) (by decide +kernel) (by decide +kernel) rfl rfl rfl hc (fun r I' L' R' hq => by obtain ⟨y, rfl, hp⟩ := hq; exact kk y I' L' R' hp)
theorem w_X8_thing_65 {Q : qQ} {I : qMI} {L : qML} {R : qMR} {a1 : Int32} {a2 : Int32} {s0 : Int32} (hQ : Q (some (.int s0)) 336 I L R) : wkB l G (d + 1) n_X8_thing Q 65 [.ref 0, .int a1, .int a2] [.int s0] I L R :=
  (fun lv hl => q_iret (zd (i := .ireturn) (n := 1) (by decide +kernel)) rfl rfl (Nat.le_refl _) (Nat.le_refl _) hQ)
theorem w_X8_thing_66 {Q : qQ} {I : qMI} {L : qML} {R : qMR} {a1 : Int32} {a2 : Int32} {P : Int32 → qMI → qML → qMR → Prop} (hc : wkCi l G d n_X8_seatsThatLent [.ref 0, .int a1] I L R P) (kk : ∀ y I' L' R', P y I' L' R' → wkB l G (d + 1) n_X8_thing Q 71 [.ref 0, .int a1, .int a2] [.int y] I' L' R') : wkB l G (d + 1) n_X8_thing Q 66 [.ref 0, .int a1, .int a2] [] I L R :=
  bb_aload_n (n := 0) (i := 0) (zd (i := .aload_n 0) (n := 1) (by decide +kernel)) rfl rfl <|
  bb_iload_n (n := 1) (i := 1) (zd (i := .iload_n 1) (n := 1) (by decide +kernel)) rfl rfl <|
  bb_callV (idx := 128) (k := 0) (ci := 8) (N := n_X8_seatsThatLent) (As := [.int a1]) (st := []) (zd (i := .invokevirtual 128) (n := 3) (by decide +kernel)) to_X8_seatsThatLent g760 g762 g22 (Nat.le_of_ble_eq_true rfl) (by decide +kernel) (by decide +kernel) (by decide +kernel) rfl rfl rfl hc (fun r I' L' R' hq => by obtain ⟨y, rfl, hp⟩ := hq; exact kk y I' L' R' hp)
theorem w_X8_thing_71 {Q : qQ} {I : qMI} {L : qML} {R : qMR} {a1 : Int32} {a2 : Int32} {s0 : Int32} (hQ : Q (some (.int s0)) 336 I L R) : wkB l G (d + 1) n_X8_thing Q 71 [.ref 0, .int a1, .int a2] [.int s0] I L R :=
  (fun lv hl => q_iret (zd (i := .ireturn) (n := 1) (by decide +kernel)) rfl rfl (Nat.le_refl _) (Nat.le_refl _) hQ)
theorem w_X8_thing_72 {Q : qQ} {I : qMI} {L : qML} {R : qMR} {a1 : Int32} {a2 : Int32} (hQ : Q (some (.int (-1))) 336 I L R) : wkB l G (d + 1) n_X8_thing Q 72 [.ref 0, .int a1, .int a2] [] I L R :=
  bb_lift (fun _ => q_iconst (n := -1) (zd (i := .iconst (-1)) (n := 1) (by decide +kernel)) rfl) <|
  (fun lv hl => q_iret (zd (i := .ireturn) (n := 1) (by decide +kernel)) rfl rfl (Nat.le_refl _) (Nat.le_refl _) hQ)
theorem w_X8_seat_0 {Q : qQ} {I : qMI} {L : qML} {R : qMR} {a1 : Int32} {a2 : Int32} {P : Int32 → qMI → qML → qMR → Prop} (hc : wkCi l G d n_X8_isSeat [.ref 0, .int a1] I L R P) (kk : ∀ y I' L' R', P y I' L' R' → wkB l G (d + 1) n_X8_seat Q 5 [.ref 0, .int a1, .int a2] [.int y] I' L' R') : wkB l G (d + 1) n_X8_seat Q 0 [.ref 0, .int a1, .int a2] [] I L R :=
  bb_aload_n (n := 0) (i := 0) (zd (i := .aload_n 0) (n := 1) (by decide +kernel)) rfl rfl <|
  bb_iload_n (n := 1) (i := 1) (zd (i := .iload_n 1) (n := 1) (by decide +kernel)) rfl rfl <|
  bb_callV (idx := 131) (k := 0) (ci := 8) (N := n_X8_isSeat) (As := [.int a1]) (st := []) (zd (i := .invokevirtual 131) (n := 3) (by decide +kernel)) to_X8_isSeat g771 g773 g23 (Nat.le_of_ble_eq_true rfl) (by decide +kernel) (by decide +kernel) (by decide +kernel) rfl rfl rfl hc (fun r I' L' R' hq => by obtain ⟨y, rfl, hp⟩ := hq; exact kk y I' L' R' hp)
theorem w_X8_seat_5 {Q : qQ} {I : qMI} {L : qML} {R : qMR} {a1 : Int32} {a2 : Int32} {s0 : Int32} (kt : ¬ s0 = 0 → wkB l G (d + 1) n_X8_seat Q 10 [.ref 0, .int a1, .int a2] [] I L R) (kf : s0 = 0 → wkB l G (d + 1) n_X8_seat Q 8 [.ref 0, .int a1, .int a2] [] I L R) : wkB l G (d + 1) n_X8_seat Q 5 [.ref 0, .int a1, .int a2] [.int s0] I L R :=
  (fun lv hl => q_if_ne (off := 5) (tgt := 10) (zd (i := .ifCond .ne (5)) (n := 3) (by decide +kernel)) (by decide) (fun h => (kt h) lv hl) (fun h => (kf h) lv hl))
theorem w_X8_seat_8 {Q : qQ} {I : qMI} {L : qML} {R : qMR} {a1 : Int32} {a2 : Int32} (hQ : Q (some (.int (-1))) 336 I L R) : wkB l G (d + 1) n_X8_seat Q 8 [.ref 0, .int a1, .int a2] [] I L R :=
  bb_lift (fun _ => q_iconst (n := -1) (zd (i := .iconst (-1)) (n := 1) (by decide +kernel)) rfl) <|
  (fun lv hl => q_iret (zd (i := .ireturn) (n := 1) (by decide +kernel)) rfl rfl (Nat.le_refl _) (Nat.le_refl _) hQ)
theorem w_X8_seat_10 {Q : qQ} {I : qMI} {L : qML} {R : qMR} {a1 : Int32} {a2 : Int32} (k : qSwt (fun tg => wkB l G (d + 1) n_X8_seat Q tg [.ref 0, .int a1, .int a2] [] I L R) a2 0 [52, 62, 72, 100, 106, 115, 125] 135) : wkB l G (d + 1) n_X8_seat Q 10 [.ref 0, .int a1, .int a2] [] I L R :=
  bb_iload_n (n := 2) (i := 2) (zd (i := .iload_n 2) (n := 1) (by decide +kernel)) rfl rfl <|
  bb_table (v := 0) (df := 135) (len := 41) (dflt := 124) (lo := 0) (hi := 6) (offs := #[41, 51, 61, 89, 95, 104, 114]) (tgts := [52, 62, 72, 100, 106, 115, 125]) (zd (i := .tableswitch (124) (0) (6) #[41, 51, 61, 89, 95, 104, 114]) (n := 41) (by decide +kernel)) rfl rfl (by decide +kernel) (by decide +kernel) (by decide +kernel) k
theorem w_X8_seat_52 {Q : qQ} {I : qMI} {L : qML} {R : qMR} {a1 : Int32} {a2 : Int32} (h1 : R 0 2 = some 21) (h2 : R 21 1 = some 22) (h3 : vp_in a1 6) (hQ : Q (some (.int (I 22 a1.toNatClampNeg))) 336 I L R) : wkB l G (d + 1) n_X8_seat Q 52 [.ref 0, .int a1, .int a2] [] I L R :=
  bb_aload_n (n := 0) (i := 0) (zd (i := .aload_n 0) (n := 1) (by decide +kernel)) rfl rfl <|
  bb_getr (k := 0) (ci := 8) (j := 2) (idx := 26) (a := 21) (zd (i := .getfield 26) (n := 3) (by decide +kernel)) (by decide +kernel) (by decide +kernel) (by decide +kernel) (by decide +kernel) rfl g454 h1 <|
  bb_getr (k := 21) (ci := 4) (j := 1) (idx := 134) (a := 22) (zd (i := .getfield 134) (n := 3) (by decide +kernel)) (by decide +kernel) (by decide +kernel) (by decide +kernel) (by decide +kernel) rfl g371 h2 <|
  bb_iload_n (n := 1) (i := 1) (zd (i := .iload_n 1) (n := 1) (by decide +kernel)) rfl rfl <|
  bb_lift (fun _ => q_iald (k := 22) (zd (i := .iaload) (n := 1) (by decide +kernel)) (by decide +kernel) (by decide +kernel) h3) <|
  (fun lv hl => q_iret (zd (i := .ireturn) (n := 1) (by decide +kernel)) rfl rfl (Nat.le_refl _) (Nat.le_refl _) hQ)
theorem w_X8_seat_62 {Q : qQ} {I : qMI} {L : qML} {R : qMR} {a1 : Int32} {a2 : Int32} (h1 : R 0 2 = some 21) (h2 : R 21 2 = some 23) (h3 : vp_in a1 6) (hQ : Q (some (.int (I 23 a1.toNatClampNeg))) 336 I L R) : wkB l G (d + 1) n_X8_seat Q 62 [.ref 0, .int a1, .int a2] [] I L R :=
  bb_aload_n (n := 0) (i := 0) (zd (i := .aload_n 0) (n := 1) (by decide +kernel)) rfl rfl <|
  bb_getr (k := 0) (ci := 8) (j := 2) (idx := 26) (a := 21) (zd (i := .getfield 26) (n := 3) (by decide +kernel)) (by decide +kernel) (by decide +kernel) (by decide +kernel) (by decide +kernel) rfl g454 h1 <|
  bb_getr (k := 21) (ci := 4) (j := 2) (idx := 137) (a := 23) (zd (i := .getfield 137) (n := 3) (by decide +kernel)) (by decide +kernel) (by decide +kernel) (by decide +kernel) (by decide +kernel) rfl g374 h2 <|
  bb_iload_n (n := 1) (i := 1) (zd (i := .iload_n 1) (n := 1) (by decide +kernel)) rfl rfl <|
  bb_lift (fun _ => q_iald (k := 23) (zd (i := .iaload) (n := 1) (by decide +kernel)) (by decide +kernel) (by decide +kernel) h3) <|
  (fun lv hl => q_iret (zd (i := .ireturn) (n := 1) (by decide +kernel)) rfl rfl (Nat.le_refl _) (Nat.le_refl _) hQ)
theorem w_X8_seat_72 {Q : qQ} {I : qMI} {L : qML} {R : qMR} {o : Nat} (ho : o = 9 ∨ o = 259) {a1 : Int32} {a2 : Int32} (h1 : R 0 2 = some 21) (h2 : R 21 1 = some 22) (h3 : vp_in a1 6) (h4 : R 0 12 = some o) (h5 : R 0 2 = some 21) {P : Int32 → qMI → qML → qMR → Prop} (hc : wkCi l G d n_X0_heat [.ref o, .int (I 21 0)] I L R P) (kk : ∀ y I' L' R', P y I' L' R' → wkB l G (d + 1) n_X8_seat Q 96 [.ref 0, .int a1, .int a2] [.int y, .int (I 22 a1.toNatClampNeg), .ref 0] I' L' R') : wkB l G (d + 1) n_X8_seat Q 72 [.ref 0, .int a1, .int a2] [] I L R :=
  bb_aload_n (n := 0) (i := 0) (zd (i := .aload_n 0) (n := 1) (by decide +kernel)) rfl rfl <|
  bb_aload_n (n := 0) (i := 0) (zd (i := .aload_n 0) (n := 1) (by decide +kernel)) rfl rfl <|
  bb_getr (k := 0) (ci := 8) (j := 2) (idx := 26) (a := 21) (zd (i := .getfield 26) (n := 3) (by decide +kernel)) (by decide +kernel) (by decide +kernel) (by decide +kernel) (by decide +kernel) rfl g454 h1 <|
  bb_getr (k := 21) (ci := 4) (j := 1) (idx := 134) (a := 22) (zd (i := .getfield 134) (n := 3) (by decide +kernel)) (by decide +kernel) (by decide +kernel) (by decide +kernel) (by decide +kernel) rfl g371 h2 <|
  bb_iload_n (n := 1) (i := 1) (zd (i := .iload_n 1) (n := 1) (by decide +kernel)) rfl rfl <|
  bb_lift (fun _ => q_iald (k := 22) (zd (i := .iaload) (n := 1) (by decide +kernel)) (by decide +kernel) (by decide +kernel) h3) <|
  bb_aload_n (n := 0) (i := 0) (zd (i := .aload_n 0) (n := 1) (by decide +kernel)) rfl rfl <|
  bb_getr (k := 0) (ci := 8) (j := 12) (idx := 71) (a := o) (zd (i := .getfield 71) (n := 3) (by decide +kernel)) (by decide +kernel) (by decide +kernel) (by decide +kernel) (by decide +kernel) rfl g464 h4 <|
  bb_aload_n (n := 0) (i := 0) (zd (i := .aload_n 0) (n := 1) (by decide +kernel)) rfl rfl <|
  bb_getr (k := 0) (ci := 8) (j := 2) (idx := 26) (a := 21) (zd (i := .getfield 26) (n := 3) (by decide +kernel)) (by decide +kernel) (by decide +kernel) (by decide +kernel) (by decide +kernel) rfl g454 h5 <|
  bb_geti (k := 21) (ci := 4) (j := 0) (idx := 140) (zd (i := .getfield 140) (n := 3) (by decide +kernel)) (by decide +kernel) (by decide +kernel) (by decide +kernel) (by decide +kernel) rfl g368 <|
  bb_callV (idx := 143) (k := o) (ci := 0) (N := n_X0_heat) (As := [.int (I 21 0)]) (st := [.int (I 22 a1.toNatClampNeg), .ref 0]) (zd (i := .invokevirtual 143) (n := 3) (by decide +kernel)) to_X0_heat g716 g717 g718 (Nat.le_of_ble_eq_true rfl) (by rcases ho with rfl | rfl <;> decide +kernel) (by rcases ho with rfl | rfl <;> decide +kernel) (by decide +kernel) rfl rfl rfl hc (fun r I' L' R' hq => by obtain ⟨y, rfl, hp⟩ := hq; exact kk y I' L' R' hp)
theorem w_X8_seat_96 {Q : qQ} {I : qMI} {L : qML} {R : qMR} {a1 : Int32} {a2 : Int32} {s1 : Int32} {s2 : Int32} {P : Int32 → qMI → qML → qMR → Prop} (hc : wkCi l G d n_X8_thingsSeenFrom [.ref 0, .int s1, .int s2] I L R P) (kk : ∀ y I' L' R', P y I' L' R' → wkB l G (d + 1) n_X8_seat Q 99 [.ref 0, .int a1, .int a2] [.int y] I' L' R') : wkB l G (d + 1) n_X8_seat Q 96 [.ref 0, .int a1, .int a2] [.int s2, .int s1, .ref 0] I L R :=
  bb_callV (idx := 146) (k := 0) (ci := 8) (N := n_X8_thingsSeenFrom) (As := [.int s1, .int s2]) (st := []) (zd (i := .invokevirtual 146) (n := 3) (by decide +kernel)) to_X8_thingsSeenFrom g775 g777 g24 (Nat.le_of_ble_eq_true rfl) (by decide +kernel) (by decide +kernel) (by decide +kernel) rfl rfl rfl hc (fun r I' L' R' hq => by obtain ⟨y, rfl, hp⟩ := hq; exact kk y I' L' R' hp)
theorem w_X8_seat_99 {Q : qQ} {I : qMI} {L : qML} {R : qMR} {a1 : Int32} {a2 : Int32} {s0 : Int32} (hQ : Q (some (.int s0)) 336 I L R) : wkB l G (d + 1) n_X8_seat Q 99 [.ref 0, .int a1, .int a2] [.int s0] I L R :=
  (fun lv hl => q_iret (zd (i := .ireturn) (n := 1) (by decide +kernel)) rfl rfl (Nat.le_refl _) (Nat.le_refl _) hQ)
theorem w_X8_seat_100 {Q : qQ} {I : qMI} {L : qML} {R : qMR} {a1 : Int32} {a2 : Int32} {P : Int32 → qMI → qML → qMR → Prop} (hc : wkCi l G d n_X8_thingsLentOn [.ref 0, .int a1] I L R P) (kk : ∀ y I' L' R', P y I' L' R' → wkB l G (d + 1) n_X8_seat Q 105 [.ref 0, .int a1, .int a2] [.int y] I' L' R') : wkB l G (d + 1) n_X8_seat Q 100 [.ref 0, .int a1, .int a2] [] I L R :=
  bb_aload_n (n := 0) (i := 0) (zd (i := .aload_n 0) (n := 1) (by decide +kernel)) rfl rfl <|
  bb_iload_n (n := 1) (i := 1) (zd (i := .iload_n 1) (n := 1) (by decide +kernel)) rfl rfl <|
  bb_callV (idx := 150) (k := 0) (ci := 8) (N := n_X8_thingsLentOn) (As := [.int a1]) (st := []) (zd (i := .invokevirtual 150) (n := 3) (by decide +kernel)) to_X8_thingsLentOn g784 g786 g25 (Nat.le_of_ble_eq_true rfl) (by decide +kernel) (by decide +kernel) (by decide +kernel) rfl rfl rfl hc (fun r I' L' R' hq => by obtain ⟨y, rfl, hp⟩ := hq; exact kk y I' L' R' hp)
theorem w_X8_seat_105 {Q : qQ} {I : qMI} {L : qML} {R : qMR} {a1 : Int32} {a2 : Int32} {s0 : Int32} (hQ : Q (some (.int s0)) 336 I L R) : wkB l G (d + 1) n_X8_seat Q 105 [.ref 0, .int a1, .int a2] [.int s0] I L R :=
  (fun lv hl => q_iret (zd (i := .ireturn) (n := 1) (by decide +kernel)) rfl rfl (Nat.le_refl _) (Nat.le_refl _) hQ)
theorem w_X8_seat_106 {Q : qQ} {I : qMI} {L : qML} {R : qMR} {a1 : Int32} {a2 : Int32} (h1 : R 0 2 = some 21) {P : Int32 → qMI → qML → qMR → Prop} (hc : wkCi l G d n_X4_lentBy [.ref 21, .int a1] I L R P) (kk : ∀ y I' L' R', P y I' L' R' → wkB l G (d + 1) n_X8_seat Q 114 [.ref 0, .int a1, .int a2] [.int y] I' L' R') : wkB l G (d + 1) n_X8_seat Q 106 [.ref 0, .int a1, .int a2] [] I L R :=
  bb_aload_n (n := 0) (i := 0) (zd (i := .aload_n 0) (n := 1) (by decide +kernel)) rfl rfl <|
  bb_getr (k := 0) (ci := 8) (j := 2) (idx := 26) (a := 21) (zd (i := .getfield 26) (n := 3) (by decide +kernel)) (by decide +kernel) (by decide +kernel) (by decide +kernel) (by decide +kernel) rfl g454 h1 <|
  bb_iload_n (n := 1) (i := 1) (zd (i := .iload_n 1) (n := 1) (by decide +kernel)) rfl rfl <|
  bb_callV (idx := 153) (k := 21) (ci := 4) (N := n_X4_lentBy) (As := [.int a1]) (st := []) (zd (i := .invokevirtual 153) (n := 3) (by decide +kernel)) to_X4_lentBy g788 g789 g790 (Nat.le_of_ble_eq_true rfl) (by decide +kernel) (by decide +kernel) (by decide +kernel) rfl rfl rfl hc (fun r I' L' R' hq => by obtain ⟨y, rfl, hp⟩ := hq; exact kk y I' L' R' hp)
theorem w_X8_seat_114 {Q : qQ} {I : qMI} {L : qML} {R : qMR} {a1 : Int32} {a2 : Int32} {s0 : Int32} (hQ : Q (some (.int s0)) 336 I L R) : wkB l G (d + 1) n_X8_seat Q 114 [.ref 0, .int a1, .int a2] [.int s0] I L R :=
  (fun lv hl => q_iret (zd (i := .ireturn) (n := 1) (by decide +kernel)) rfl rfl (Nat.le_refl _) (Nat.le_refl _) hQ)
theorem w_X8_seat_115 {Q : qQ} {I : qMI} {L : qML} {R : qMR} {a1 : Int32} {a2 : Int32} (h1 : R 0 2 = some 21) (h2 : R 21 3 = some 24) (h3 : vp_in a1 6) (hQ : Q (some (.int (I 24 a1.toNatClampNeg))) 336 I L R) : wkB l G (d + 1) n_X8_seat Q 115 [.ref 0, .int a1, .int a2] [] I L R :=
  bb_aload_n (n := 0) (i := 0) (zd (i := .aload_n 0) (n := 1) (by decide +kernel)) rfl rfl <|
  bb_getr (k := 0) (ci := 8) (j := 2) (idx := 26) (a := 21) (zd (i := .getfield 26) (n := 3) (by decide +kernel)) (by decide +kernel) (by decide +kernel) (by decide +kernel) (by decide +kernel) rfl g454 h1 <|
  bb_getr (k := 21) (ci := 4) (j := 3) (idx := 156) (a := 24) (zd (i := .getfield 156) (n := 3) (by decide +kernel)) (by decide +kernel) (by decide +kernel) (by decide +kernel) (by decide +kernel) rfl g377 h2 <|
  bb_iload_n (n := 1) (i := 1) (zd (i := .iload_n 1) (n := 1) (by decide +kernel)) rfl rfl <|
  bb_lift (fun _ => q_iald (k := 24) (zd (i := .iaload) (n := 1) (by decide +kernel)) (by decide +kernel) (by decide +kernel) h3) <|
  (fun lv hl => q_iret (zd (i := .ireturn) (n := 1) (by decide +kernel)) rfl rfl (Nat.le_refl _) (Nat.le_refl _) hQ)
theorem w_X8_seat_125 {Q : qQ} {I : qMI} {L : qML} {R : qMR} {a1 : Int32} {a2 : Int32} (h1 : R 0 2 = some 21) (h2 : R 21 4 = some 25) (h3 : vp_in a1 6) (hQ : Q (some (.int (I 25 a1.toNatClampNeg))) 336 I L R) : wkB l G (d + 1) n_X8_seat Q 125 [.ref 0, .int a1, .int a2] [] I L R :=
  bb_aload_n (n := 0) (i := 0) (zd (i := .aload_n 0) (n := 1) (by decide +kernel)) rfl rfl <|
  bb_getr (k := 0) (ci := 8) (j := 2) (idx := 26) (a := 21) (zd (i := .getfield 26) (n := 3) (by decide +kernel)) (by decide +kernel) (by decide +kernel) (by decide +kernel) (by decide +kernel) rfl g454 h1 <|
  bb_getr (k := 21) (ci := 4) (j := 4) (idx := 159) (a := 25) (zd (i := .getfield 159) (n := 3) (by decide +kernel)) (by decide +kernel) (by decide +kernel) (by decide +kernel) (by decide +kernel) rfl g380 h2 <|
  bb_iload_n (n := 1) (i := 1) (zd (i := .iload_n 1) (n := 1) (by decide +kernel)) rfl rfl <|
  bb_lift (fun _ => q_iald (k := 25) (zd (i := .iaload) (n := 1) (by decide +kernel)) (by decide +kernel) (by decide +kernel) h3) <|
  (fun lv hl => q_iret (zd (i := .ireturn) (n := 1) (by decide +kernel)) rfl rfl (Nat.le_refl _) (Nat.le_refl _) hQ)
theorem w_X8_seat_135 {Q : qQ} {I : qMI} {L : qML} {R : qMR} {a1 : Int32} {a2 : Int32} (hQ : Q (some (.int (-1))) 336 I L R) : wkB l G (d + 1) n_X8_seat Q 135 [.ref 0, .int a1, .int a2] [] I L R :=
  bb_lift (fun _ => q_iconst (n := -1) (zd (i := .iconst (-1)) (n := 1) (by decide +kernel)) rfl) <|
  (fun lv hl => q_iret (zd (i := .ireturn) (n := 1) (by decide +kernel)) rfl rfl (Nat.le_refl _) (Nat.le_refl _) hQ)
theorem w_X8_loan_0 {Q : qQ} {I : qMI} {L : qML} {R : qMR} {a1 : Int32} {a2 : Int32} {a3 : Int32} {P : Int32 → qMI → qML → qMR → Prop} (hc : wkCi l G d n_X8_isPair [.ref 0, .int a1, .int a2] I L R P) (kk : ∀ y I' L' R', P y I' L' R' → wkB l G (d + 1) n_X8_loan Q 6 [.ref 0, .int a1, .int a2, .int a3, wkU] [.int y] I' L' R') : wkB l G (d + 1) n_X8_loan Q 0 [.ref 0, .int a1, .int a2, .int a3, wkU] [] I L R :=
  bb_aload_n (n := 0) (i := 0) (zd (i := .aload_n 0) (n := 1) (by decide +kernel)) rfl rfl <|
  bb_iload_n (n := 1) (i := 1) (zd (i := .iload_n 1) (n := 1) (by decide +kernel)) rfl rfl <|
  bb_iload_n (n := 2) (i := 2) (zd (i := .iload_n 2) (n := 1) (by decide +kernel)) rfl rfl <|
  bb_callV (idx := 162) (k := 0) (ci := 8) (N := n_X8_isPair) (As := [.int a1, .int a2]) (st := []) (zd (i := .invokevirtual 162) (n := 3) (by decide +kernel)) to_X8_isPair g797 g799 g26 (Nat.le_of_ble_eq_true rfl) (by decide +kernel) (by decide +kernel) (by decide +kernel) rfl rfl rfl hc (fun r I' L' R' hq => by obtain ⟨y, rfl, hp⟩ := hq; exact kk y I' L' R' hp)
theorem w_X8_loan_6 {Q : qQ} {I : qMI} {L : qML} {R : qMR} {a1 : Int32} {a2 : Int32} {a3 : Int32} {s0 : Int32} (kt : s0 = 0 → wkB l G (d + 1) n_X8_loan Q 18 [.ref 0, .int a1, .int a2, .int a3, wkU] [] I L R) (kf : ¬ s0 = 0 → wkB l G (d + 1) n_X8_loan Q 9 [.ref 0, .int a1, .int a2, .int a3, wkU] [] I L R) : wkB l G (d + 1) n_X8_loan Q 6 [.ref 0, .int a1, .int a2, .int a3, wkU] [.int s0] I L R :=
  (fun lv hl => q_if_eq (off := 12) (tgt := 18) (zd (i := .ifCond .eq (12)) (n := 3) (by decide +kernel)) (by decide) (fun h => (kt h) lv hl) (fun h => (kf h) lv hl))
theorem w_X8_loan_9 {Q : qQ} {I : qMI} {L : qML} {R : qMR} {a1 : Int32} {a2 : Int32} {a3 : Int32} (kt : a3 < 0 → wkB l G (d + 1) n_X8_loan Q 18 [.ref 0, .int a1, .int a2, .int a3, wkU] [] I L R) (kf : ¬ a3 < 0 → wkB l G (d + 1) n_X8_loan Q 13 [.ref 0, .int a1, .int a2, .int a3, wkU] [] I L R) : wkB l G (d + 1) n_X8_loan Q 9 [.ref 0, .int a1, .int a2, .int a3, wkU] [] I L R :=
  bb_iload_n (n := 3) (i := 3) (zd (i := .iload_n 3) (n := 1) (by decide +kernel)) rfl rfl <|
  (fun lv hl => q_if_lt (off := 8) (tgt := 18) (zd (i := .ifCond .lt (8)) (n := 3) (by decide +kernel)) (by decide) (fun h => (kt h) lv hl) (fun h => (kf h) lv hl))
theorem w_X8_loan_13 {Q : qQ} {I : qMI} {L : qML} {R : qMR} {a1 : Int32} {a2 : Int32} {a3 : Int32} (kt : a3 ≤ 1 → wkB l G (d + 1) n_X8_loan Q 20 [.ref 0, .int a1, .int a2, .int a3, wkU] [] I L R) (kf : ¬ a3 ≤ 1 → wkB l G (d + 1) n_X8_loan Q 18 [.ref 0, .int a1, .int a2, .int a3, wkU] [] I L R) : wkB l G (d + 1) n_X8_loan Q 13 [.ref 0, .int a1, .int a2, .int a3, wkU] [] I L R :=
  bb_iload_n (n := 3) (i := 3) (zd (i := .iload_n 3) (n := 1) (by decide +kernel)) rfl rfl <|
  bb_lift (fun _ => q_iconst (n := 1) (zd (i := .iconst (1)) (n := 1) (by decide +kernel)) rfl) <|
  (fun lv hl => q_icmp_le (off := 5) (tgt := 20) (zd (i := .if_icmp .le (5)) (n := 3) (by decide +kernel)) (by decide) (fun h => (kt h) lv hl) (fun h => (kf h) lv hl))
theorem w_X8_loan_18 {Q : qQ} {I : qMI} {L : qML} {R : qMR} {a1 : Int32} {a2 : Int32} {a3 : Int32} (hQ : Q (some (.int (-1))) 336 I L R) : wkB l G (d + 1) n_X8_loan Q 18 [.ref 0, .int a1, .int a2, .int a3, wkU] [] I L R :=
  bb_lift (fun _ => q_iconst (n := -1) (zd (i := .iconst (-1)) (n := 1) (by decide +kernel)) rfl) <|
  (fun lv hl => q_iret (zd (i := .ireturn) (n := 1) (by decide +kernel)) rfl rfl (Nat.le_refl _) (Nat.le_refl _) hQ)
theorem w_X8_loan_20 {Q : qQ} {I : qMI} {L : qML} {R : qMR} {a1 : Int32} {a2 : Int32} {a3 : Int32} {P : Int32 → qMI → qML → qMR → Prop} (hc : wkCi l G d n_X8_loanOf [.int a1, .int a2] I L R P) (kk : ∀ y I' L' R', P y I' L' R' → wkB l G (d + 1) n_X8_loan Q 25 [.ref 0, .int a1, .int a2, .int a3, wkU] [.int y] I' L' R') : wkB l G (d + 1) n_X8_loan Q 20 [.ref 0, .int a1, .int a2, .int a3, wkU] [] I L R :=
  bb_iload_n (n := 1) (i := 1) (zd (i := .iload_n 1) (n := 1) (by decide +kernel)) rfl rfl <|
  bb_iload_n (n := 2) (i := 2) (zd (i := .iload_n 2) (n := 1) (by decide +kernel)) rfl rfl <|
  bb_callS (idx := 166) (N := n_X8_loanOf) (As := [.int a1, .int a2]) (st := []) (zd (i := .invokestatic 166) (n := 3) (by decide +kernel)) to_X8_loanOf g764 g765 (Nat.le_of_ble_eq_true rfl) rfl rfl hc (fun r I' L' R' hq => by obtain ⟨y, rfl, hp⟩ := hq; exact kk y I' L' R' hp)
theorem w_X8_loan_25 {Q : qQ} {I : qMI} {L : qML} {R : qMR} {a1 : Int32} {a2 : Int32} {a3 : Int32} {s0 : Int32} (h1 : R 0 2 = some 21) (h2 : R 21 5 = some 26) (h3 : vp_in s0 36) (kt : ¬ (I 26 s0.toNatClampNeg) = 0 → wkB l G (d + 1) n_X8_loan Q 43 [.ref 0, .int a1, .int a2, .int a3, .int s0] [] I L R) (kf : (I 26 s0.toNatClampNeg) = 0 → wkB l G (d + 1) n_X8_loan Q 40 [.ref 0, .int a1, .int a2, .int a3, .int s0] [] I L R) : wkB l G (d + 1) n_X8_loan Q 25 [.ref 0, .int a1, .int a2, .int a3, wkU] [.int s0] I L R :=
  bb_istore (i := 4) (zd (i := .istore 4) (n := 2) (by decide +kernel)) (by decide +kernel) (wkNl_i rfl) <|
  bb_aload_n (n := 0) (i := 0) (zd (i := .aload_n 0) (n := 1) (by decide +kernel)) rfl rfl <|
  bb_getr (k := 0) (ci := 8) (j := 2) (idx := 26) (a := 21) (zd (i := .getfield 26) (n := 3) (by decide +kernel)) (by decide +kernel) (by decide +kernel) (by decide +kernel) (by decide +kernel) rfl g454 h1 <|
  bb_getr (k := 21) (ci := 4) (j := 5) (idx := 169) (a := 26) (zd (i := .getfield 169) (n := 3) (by decide +kernel)) (by decide +kernel) (by decide +kernel) (by decide +kernel) (by decide +kernel) rfl g383 h2 <|
  bb_iload (i := 4) (zd (i := .iload 4) (n := 2) (by decide +kernel)) rfl <|
  bb_lift (fun _ => q_iald (k := 26) (zd (i := .iaload) (n := 1) (by decide +kernel)) (by decide +kernel) (by decide +kernel) h3) <|
  (fun lv hl => q_if_ne (off := 6) (tgt := 43) (zd (i := .ifCond .ne (6)) (n := 3) (by decide +kernel)) (by decide) (fun h => (kt h) lv hl) (fun h => (kf h) lv hl))
theorem w_X8_loan_40 {Q : qQ} {I : qMI} {L : qML} {R : qMR} {a1 : Int32} {a2 : Int32} {a3 : Int32} {a4 : Int32} (hQ : Q (some (.int (-2))) 336 I L R) : wkB l G (d + 1) n_X8_loan Q 40 [.ref 0, .int a1, .int a2, .int a3, .int a4] [] I L R :=
  bb_lift (fun _ => q_bipush (n := -2) (zd (i := .bipush (-2)) (n := 2) (by decide +kernel)) rfl) <|
  (fun lv hl => q_iret (zd (i := .ireturn) (n := 1) (by decide +kernel)) rfl rfl (Nat.le_refl _) (Nat.le_refl _) hQ)
theorem w_X8_loan_43 {Q : qQ} {I : qMI} {L : qML} {R : qMR} {a1 : Int32} {a2 : Int32} {a3 : Int32} {a4 : Int32} (kt : ¬ a3 = 0 → wkB l G (d + 1) n_X8_loan Q 60 [.ref 0, .int a1, .int a2, .int a3, .int a4] [] I L R) (kf : a3 = 0 → wkB l G (d + 1) n_X8_loan Q 47 [.ref 0, .int a1, .int a2, .int a3, .int a4] [] I L R) : wkB l G (d + 1) n_X8_loan Q 43 [.ref 0, .int a1, .int a2, .int a3, .int a4] [] I L R :=
  bb_iload_n (n := 3) (i := 3) (zd (i := .iload_n 3) (n := 1) (by decide +kernel)) rfl rfl <|
  (fun lv hl => q_if_ne (off := 16) (tgt := 60) (zd (i := .ifCond .ne (16)) (n := 3) (by decide +kernel)) (by decide) (fun h => (kt h) lv hl) (fun h => (kf h) lv hl))
theorem w_X8_loan_47 {Q : qQ} {I : qMI} {L : qML} {R : qMR} {a1 : Int32} {a2 : Int32} {a3 : Int32} {a4 : Int32} (h1 : R 0 2 = some 21) (h2 : R 21 5 = some 26) (h3 : vp_in a4 36) (k : wkB l G (d + 1) n_X8_loan Q 70 [.ref 0, .int a1, .int a2, .int a3, .int a4] [.int (I 26 a4.toNatClampNeg)] I L R) : wkB l G (d + 1) n_X8_loan Q 47 [.ref 0, .int a1, .int a2, .int a3, .int a4] [] I L R :=
  bb_aload_n (n := 0) (i := 0) (zd (i := .aload_n 0) (n := 1) (by decide +kernel)) rfl rfl <|
  bb_getr (k := 0) (ci := 8) (j := 2) (idx := 26) (a := 21) (zd (i := .getfield 26) (n := 3) (by decide +kernel)) (by decide +kernel) (by decide +kernel) (by decide +kernel) (by decide +kernel) rfl g454 h1 <|
  bb_getr (k := 21) (ci := 4) (j := 5) (idx := 169) (a := 26) (zd (i := .getfield 169) (n := 3) (by decide +kernel)) (by decide +kernel) (by decide +kernel) (by decide +kernel) (by decide +kernel) rfl g383 h2 <|
  bb_iload (i := 4) (zd (i := .iload 4) (n := 2) (by decide +kernel)) rfl <|
  bb_lift (fun _ => q_iald (k := 26) (zd (i := .iaload) (n := 1) (by decide +kernel)) (by decide +kernel) (by decide +kernel) h3) <|
  bb_lift (fun _ => q_goto (off := 13) (tgt := 70) (zd (i := .goto (13)) (n := 3) (by decide +kernel)) (by decide)) k
theorem w_X8_loan_60 {Q : qQ} {I : qMI} {L : qML} {R : qMR} {a1 : Int32} {a2 : Int32} {a3 : Int32} {a4 : Int32} (h1 : R 0 2 = some 21) (h2 : R 21 6 = some 27) (h3 : vp_in a4 36) (k : wkB l G (d + 1) n_X8_loan Q 70 [.ref 0, .int a1, .int a2, .int a3, .int a4] [.int (I 27 a4.toNatClampNeg)] I L R) : wkB l G (d + 1) n_X8_loan Q 60 [.ref 0, .int a1, .int a2, .int a3, .int a4] [] I L R :=
  bb_aload_n (n := 0) (i := 0) (zd (i := .aload_n 0) (n := 1) (by decide +kernel)) rfl rfl <|
  bb_getr (k := 0) (ci := 8) (j := 2) (idx := 26) (a := 21) (zd (i := .getfield 26) (n := 3) (by decide +kernel)) (by decide +kernel) (by decide +kernel) (by decide +kernel) (by decide +kernel) rfl g454 h1 <|
  bb_getr (k := 21) (ci := 4) (j := 6) (idx := 172) (a := 27) (zd (i := .getfield 172) (n := 3) (by decide +kernel)) (by decide +kernel) (by decide +kernel) (by decide +kernel) (by decide +kernel) rfl g386 h2 <|
  bb_iload (i := 4) (zd (i := .iload 4) (n := 2) (by decide +kernel)) rfl <|
  bb_lift (fun _ => q_iald (k := 27) (zd (i := .iaload) (n := 1) (by decide +kernel)) (by decide +kernel) (by decide +kernel) h3) <|
  k
theorem w_X8_loan_70 {Q : qQ} {I : qMI} {L : qML} {R : qMR} {a1 : Int32} {a2 : Int32} {a3 : Int32} {a4 : Int32} {s0 : Int32} (hQ : Q (some (.int s0)) 336 I L R) : wkB l G (d + 1) n_X8_loan Q 70 [.ref 0, .int a1, .int a2, .int a3, .int a4] [.int s0] I L R :=
  (fun lv hl => q_iret (zd (i := .ireturn) (n := 1) (by decide +kernel)) rfl rfl (Nat.le_refl _) (Nat.le_refl _) hQ)
theorem w_X8_tells_0 {Q : qQ} {I : qMI} {L : qML} {R : qMR} {a1 : Int32} {a2 : Int32} {a3 : Int32} {a4 : Int32} (kt : a1 = 1 → wkB l G (d + 1) n_X8_tells Q 10 [.ref 0, .int a1, .int a2, .int a3, .int a4, wkU, wkU, wkU] [] I L R) (kf : ¬ a1 = 1 → wkB l G (d + 1) n_X8_tells Q 5 [.ref 0, .int a1, .int a2, .int a3, .int a4, wkU, wkU, wkU] [] I L R) : wkB l G (d + 1) n_X8_tells Q 0 [.ref 0, .int a1, .int a2, .int a3, .int a4, wkU, wkU, wkU] [] I L R :=
  bb_iload_n (n := 1) (i := 1) (zd (i := .iload_n 1) (n := 1) (by decide +kernel)) rfl rfl <|
  bb_lift (fun _ => q_iconst (n := 1) (zd (i := .iconst (1)) (n := 1) (by decide +kernel)) rfl) <|
  (fun lv hl => q_icmp_eq (off := 8) (tgt := 10) (zd (i := .if_icmp .eq (8)) (n := 3) (by decide +kernel)) (by decide) (fun h => (kt h) lv hl) (fun h => (kf h) lv hl))
theorem w_X8_tells_5 {Q : qQ} {I : qMI} {L : qML} {R : qMR} {a1 : Int32} {a2 : Int32} {a3 : Int32} {a4 : Int32} (kt : ¬ a1 = 2 → wkB l G (d + 1) n_X8_tells Q 14 [.ref 0, .int a1, .int a2, .int a3, .int a4, wkU, wkU, wkU] [] I L R) (kf : a1 = 2 → wkB l G (d + 1) n_X8_tells Q 10 [.ref 0, .int a1, .int a2, .int a3, .int a4, wkU, wkU, wkU] [] I L R) : wkB l G (d + 1) n_X8_tells Q 5 [.ref 0, .int a1, .int a2, .int a3, .int a4, wkU, wkU, wkU] [] I L R :=
  bb_iload_n (n := 1) (i := 1) (zd (i := .iload_n 1) (n := 1) (by decide +kernel)) rfl rfl <|
  bb_lift (fun _ => q_iconst (n := 2) (zd (i := .iconst (2)) (n := 1) (by decide +kernel)) rfl) <|
  (fun lv hl => q_icmp_ne (off := 7) (tgt := 14) (zd (i := .if_icmp .ne (7)) (n := 3) (by decide +kernel)) (by decide) (fun h => (kt h) lv hl) (fun h => (kf h) lv hl))
theorem w_X8_tells_10 {Q : qQ} {I : qMI} {L : qML} {R : qMR} {a1 : Int32} {a2 : Int32} {a3 : Int32} {a4 : Int32} (k : wkB l G (d + 1) n_X8_tells Q 15 [.ref 0, .int a1, .int a2, .int a3, .int a4, wkU, wkU, wkU] [.int 1] I L R) : wkB l G (d + 1) n_X8_tells Q 10 [.ref 0, .int a1, .int a2, .int a3, .int a4, wkU, wkU, wkU] [] I L R :=
  bb_lift (fun _ => q_iconst (n := 1) (zd (i := .iconst (1)) (n := 1) (by decide +kernel)) rfl) <|
  bb_lift (fun _ => q_goto (off := 4) (tgt := 15) (zd (i := .goto (4)) (n := 3) (by decide +kernel)) (by decide)) k
theorem w_X8_tells_14 {Q : qQ} {I : qMI} {L : qML} {R : qMR} {a1 : Int32} {a2 : Int32} {a3 : Int32} {a4 : Int32} (k : wkB l G (d + 1) n_X8_tells Q 15 [.ref 0, .int a1, .int a2, .int a3, .int a4, wkU, wkU, wkU] [.int 0] I L R) : wkB l G (d + 1) n_X8_tells Q 14 [.ref 0, .int a1, .int a2, .int a3, .int a4, wkU, wkU, wkU] [] I L R :=
  bb_lift (fun _ => q_iconst (n := 0) (zd (i := .iconst (0)) (n := 1) (by decide +kernel)) rfl) <|
  k
theorem w_X8_tells_15 {Q : qQ} {I : qMI} {L : qML} {R : qMR} {a1 : Int32} {a2 : Int32} {a3 : Int32} {a4 : Int32} {s0 : Int32} (kt : a1 = 2 → wkB l G (d + 1) n_X8_tells Q 27 [.ref 0, .int a1, .int a2, .int a3, .int a4, .int s0, wkU, wkU] [] I L R) (kf : ¬ a1 = 2 → wkB l G (d + 1) n_X8_tells Q 22 [.ref 0, .int a1, .int a2, .int a3, .int a4, .int s0, wkU, wkU] [] I L R) : wkB l G (d + 1) n_X8_tells Q 15 [.ref 0, .int a1, .int a2, .int a3, .int a4, wkU, wkU, wkU] [.int s0] I L R :=
  bb_istore (i := 5) (zd (i := .istore 5) (n := 2) (by decide +kernel)) (by decide +kernel) (wkNl_i rfl) <|
  bb_iload_n (n := 1) (i := 1) (zd (i := .iload_n 1) (n := 1) (by decide +kernel)) rfl rfl <|
  bb_lift (fun _ => q_iconst (n := 2) (zd (i := .iconst (2)) (n := 1) (by decide +kernel)) rfl) <|
  (fun lv hl => q_icmp_eq (off := 8) (tgt := 27) (zd (i := .if_icmp .eq (8)) (n := 3) (by decide +kernel)) (by decide) (fun h => (kt h) lv hl) (fun h => (kf h) lv hl))
theorem w_X8_tells_22 {Q : qQ} {I : qMI} {L : qML} {R : qMR} {a1 : Int32} {a2 : Int32} {a3 : Int32} {a4 : Int32} {a5 : Int32} (kt : ¬ a1 = 3 → wkB l G (d + 1) n_X8_tells Q 31 [.ref 0, .int a1, .int a2, .int a3, .int a4, .int a5, wkU, wkU] [] I L R) (kf : a1 = 3 → wkB l G (d + 1) n_X8_tells Q 27 [.ref 0, .int a1, .int a2, .int a3, .int a4, .int a5, wkU, wkU] [] I L R) : wkB l G (d + 1) n_X8_tells Q 22 [.ref 0, .int a1, .int a2, .int a3, .int a4, .int a5, wkU, wkU] [] I L R :=
  bb_iload_n (n := 1) (i := 1) (zd (i := .iload_n 1) (n := 1) (by decide +kernel)) rfl rfl <|
  bb_lift (fun _ => q_iconst (n := 3) (zd (i := .iconst (3)) (n := 1) (by decide +kernel)) rfl) <|
  (fun lv hl => q_icmp_ne (off := 7) (tgt := 31) (zd (i := .if_icmp .ne (7)) (n := 3) (by decide +kernel)) (by decide) (fun h => (kt h) lv hl) (fun h => (kf h) lv hl))
theorem w_X8_tells_27 {Q : qQ} {I : qMI} {L : qML} {R : qMR} {a1 : Int32} {a2 : Int32} {a3 : Int32} {a4 : Int32} {a5 : Int32} (k : wkB l G (d + 1) n_X8_tells Q 32 [.ref 0, .int a1, .int a2, .int a3, .int a4, .int a5, wkU, wkU] [.int 1] I L R) : wkB l G (d + 1) n_X8_tells Q 27 [.ref 0, .int a1, .int a2, .int a3, .int a4, .int a5, wkU, wkU] [] I L R :=
  bb_lift (fun _ => q_iconst (n := 1) (zd (i := .iconst (1)) (n := 1) (by decide +kernel)) rfl) <|
  bb_lift (fun _ => q_goto (off := 4) (tgt := 32) (zd (i := .goto (4)) (n := 3) (by decide +kernel)) (by decide)) k
theorem w_X8_tells_31 {Q : qQ} {I : qMI} {L : qML} {R : qMR} {a1 : Int32} {a2 : Int32} {a3 : Int32} {a4 : Int32} {a5 : Int32} (k : wkB l G (d + 1) n_X8_tells Q 32 [.ref 0, .int a1, .int a2, .int a3, .int a4, .int a5, wkU, wkU] [.int 0] I L R) : wkB l G (d + 1) n_X8_tells Q 31 [.ref 0, .int a1, .int a2, .int a3, .int a4, .int a5, wkU, wkU] [] I L R :=
  bb_lift (fun _ => q_iconst (n := 0) (zd (i := .iconst (0)) (n := 1) (by decide +kernel)) rfl) <|
  k
theorem w_X8_tells_32 {Q : qQ} {I : qMI} {L : qML} {R : qMR} {a1 : Int32} {a2 : Int32} {a3 : Int32} {a4 : Int32} {a5 : Int32} {s0 : Int32} (kt : a5 = 0 → wkB l G (d + 1) n_X8_tells Q 54 [.ref 0, .int a1, .int a2, .int a3, .int a4, .int a5, .int s0, wkU] [] I L R) (kf : ¬ a5 = 0 → wkB l G (d + 1) n_X8_tells Q 39 [.ref 0, .int a1, .int a2, .int a3, .int a4, .int a5, .int s0, wkU] [] I L R) : wkB l G (d + 1) n_X8_tells Q 32 [.ref 0, .int a1, .int a2, .int a3, .int a4, .int a5, wkU, wkU] [.int s0] I L R :=
  bb_istore (i := 6) (zd (i := .istore 6) (n := 2) (by decide +kernel)) (by decide +kernel) (wkNl_i rfl) <|
  bb_iload (i := 5) (zd (i := .iload 5) (n := 2) (by decide +kernel)) rfl <|
  (fun lv hl => q_if_eq (off := 18) (tgt := 54) (zd (i := .ifCond .eq (18)) (n := 3) (by decide +kernel)) (by decide) (fun h => (kt h) lv hl) (fun h => (kf h) lv hl))
theorem w_X8_tells_39 {Q : qQ} {I : qMI} {L : qML} {R : qMR} {a1 : Int32} {a2 : Int32} {a3 : Int32} {a4 : Int32} {a5 : Int32} {a6 : Int32} {P : Int32 → qMI → qML → qMR → Prop} (hc : wkCi l G d n_X8_isX [.int a2] I L R P) (kk : ∀ y I' L' R', P y I' L' R' → wkB l G (d + 1) n_X8_tells Q 43 [.ref 0, .int a1, .int a2, .int a3, .int a4, .int a5, .int a6, wkU] [.int y] I' L' R') : wkB l G (d + 1) n_X8_tells Q 39 [.ref 0, .int a1, .int a2, .int a3, .int a4, .int a5, .int a6, wkU] [] I L R :=
  bb_iload_n (n := 2) (i := 2) (zd (i := .iload_n 2) (n := 1) (by decide +kernel)) rfl rfl <|
  bb_callS (idx := 175) (N := n_X8_isX) (As := [.int a2]) (st := []) (zd (i := .invokestatic 175) (n := 3) (by decide +kernel)) to_X8_isX g805 g806 (Nat.le_of_ble_eq_true rfl) rfl rfl hc (fun r I' L' R' hq => by obtain ⟨y, rfl, hp⟩ := hq; exact kk y I' L' R' hp)
theorem w_X8_tells_43 {Q : qQ} {I : qMI} {L : qML} {R : qMR} {a1 : Int32} {a2 : Int32} {a3 : Int32} {a4 : Int32} {a5 : Int32} {a6 : Int32} {s0 : Int32} (kt : s0 = 0 → wkB l G (d + 1) n_X8_tells Q 72 [.ref 0, .int a1, .int a2, .int a3, .int a4, .int a5, .int a6, wkU] [] I L R) (kf : ¬ s0 = 0 → wkB l G (d + 1) n_X8_tells Q 46 [.ref 0, .int a1, .int a2, .int a3, .int a4, .int a5, .int a6, wkU] [] I L R) : wkB l G (d + 1) n_X8_tells Q 43 [.ref 0, .int a1, .int a2, .int a3, .int a4, .int a5, .int a6, wkU] [.int s0] I L R :=
  (fun lv hl => q_if_eq (off := 29) (tgt := 72) (zd (i := .ifCond .eq (29)) (n := 3) (by decide +kernel)) (by decide) (fun h => (kt h) lv hl) (fun h => (kf h) lv hl))
theorem w_X8_tells_46 {Q : qQ} {I : qMI} {L : qML} {R : qMR} {a1 : Int32} {a2 : Int32} {a3 : Int32} {a4 : Int32} {a5 : Int32} {a6 : Int32} {P : Int32 → qMI → qML → qMR → Prop} (hc : wkCi l G d n_X8_isThing [.ref 0, .int a3] I L R P) (kk : ∀ y I' L' R', P y I' L' R' → wkB l G (d + 1) n_X8_tells Q 51 [.ref 0, .int a1, .int a2, .int a3, .int a4, .int a5, .int a6, wkU] [.int y] I' L' R') : wkB l G (d + 1) n_X8_tells Q 46 [.ref 0, .int a1, .int a2, .int a3, .int a4, .int a5, .int a6, wkU] [] I L R :=
  bb_aload_n (n := 0) (i := 0) (zd (i := .aload_n 0) (n := 1) (by decide +kernel)) rfl rfl <|
  bb_iload_n (n := 3) (i := 3) (zd (i := .iload_n 3) (n := 1) (by decide +kernel)) rfl rfl <|
  bb_callV (idx := 115) (k := 0) (ci := 8) (N := n_X8_isThing) (As := [.int a3]) (st := []) (zd (i := .invokevirtual 115) (n := 3) (by decide +kernel)) to_X8_isThing g708 g710 g17 (Nat.le_of_ble_eq_true rfl) (by decide +kernel) (by decide +kernel) (by decide +kernel) rfl rfl rfl hc (fun r I' L' R' hq => by obtain ⟨y, rfl, hp⟩ := hq; exact kk y I' L' R' hp)
theorem w_X8_tells_51 {Q : qQ} {I : qMI} {L : qML} {R : qMR} {a1 : Int32} {a2 : Int32} {a3 : Int32} {a4 : Int32} {a5 : Int32} {a6 : Int32} {s0 : Int32} (kt : s0 = 0 → wkB l G (d + 1) n_X8_tells Q 72 [.ref 0, .int a1, .int a2, .int a3, .int a4, .int a5, .int a6, wkU] [] I L R) (kf : ¬ s0 = 0 → wkB l G (d + 1) n_X8_tells Q 54 [.ref 0, .int a1, .int a2, .int a3, .int a4, .int a5, .int a6, wkU] [] I L R) : wkB l G (d + 1) n_X8_tells Q 51 [.ref 0, .int a1, .int a2, .int a3, .int a4, .int a5, .int a6, wkU] [.int s0] I L R :=
  (fun lv hl => q_if_eq (off := 21) (tgt := 72) (zd (i := .ifCond .eq (21)) (n := 3) (by decide +kernel)) (by decide) (fun h => (kt h) lv hl) (fun h => (kf h) lv hl))
theorem w_X8_tells_54 {Q : qQ} {I : qMI} {L : qML} {R : qMR} {a1 : Int32} {a2 : Int32} {a3 : Int32} {a4 : Int32} {a5 : Int32} {a6 : Int32} (kt : a6 = 0 → wkB l G (d + 1) n_X8_tells Q 75 [.ref 0, .int a1, .int a2, .int a3, .int a4, .int a5, .int a6, wkU] [] I L R) (kf : ¬ a6 = 0 → wkB l G (d + 1) n_X8_tells Q 59 [.ref 0, .int a1, .int a2, .int a3, .int a4, .int a5, .int a6, wkU] [] I L R) : wkB l G (d + 1) n_X8_tells Q 54 [.ref 0, .int a1, .int a2, .int a3, .int a4, .int a5, .int a6, wkU] [] I L R :=
  bb_iload (i := 6) (zd (i := .iload 6) (n := 2) (by decide +kernel)) rfl <|
  (fun lv hl => q_if_eq (off := 19) (tgt := 75) (zd (i := .ifCond .eq (19)) (n := 3) (by decide +kernel)) (by decide) (fun h => (kt h) lv hl) (fun h => (kf h) lv hl))
theorem w_X8_tells_59 {Q : qQ} {I : qMI} {L : qML} {R : qMR} {a1 : Int32} {a2 : Int32} {a3 : Int32} {a4 : Int32} {a5 : Int32} {a6 : Int32} (kt : a4 < 0 → wkB l G (d + 1) n_X8_tells Q 72 [.ref 0, .int a1, .int a2, .int a3, .int a4, .int a5, .int a6, wkU] [] I L R) (kf : ¬ a4 < 0 → wkB l G (d + 1) n_X8_tells Q 64 [.ref 0, .int a1, .int a2, .int a3, .int a4, .int a5, .int a6, wkU] [] I L R) : wkB l G (d + 1) n_X8_tells Q 59 [.ref 0, .int a1, .int a2, .int a3, .int a4, .int a5, .int a6, wkU] [] I L R :=
  bb_iload (i := 4) (zd (i := .iload 4) (n := 2) (by decide +kernel)) rfl <|
  (fun lv hl => q_if_lt (off := 11) (tgt := 72) (zd (i := .ifCond .lt (11)) (n := 3) (by decide +kernel)) (by decide) (fun h => (kt h) lv hl) (fun h => (kf h) lv hl))
theorem w_X8_tells_64 {Q : qQ} {I : qMI} {L : qML} {R : qMR} {a1 : Int32} {a2 : Int32} {a3 : Int32} {a4 : Int32} {a5 : Int32} {a6 : Int32} (kt : a4 ≤ 999 → wkB l G (d + 1) n_X8_tells Q 75 [.ref 0, .int a1, .int a2, .int a3, .int a4, .int a5, .int a6, wkU] [] I L R) (kf : ¬ a4 ≤ 999 → wkB l G (d + 1) n_X8_tells Q 72 [.ref 0, .int a1, .int a2, .int a3, .int a4, .int a5, .int a6, wkU] [] I L R) : wkB l G (d + 1) n_X8_tells Q 64 [.ref 0, .int a1, .int a2, .int a3, .int a4, .int a5, .int a6, wkU] [] I L R :=
  bb_iload (i := 4) (zd (i := .iload 4) (n := 2) (by decide +kernel)) rfl <|
  bb_lift (fun _ => q_sipush (n := 999) (zd (i := .sipush (999)) (n := 3) (by decide +kernel)) rfl) <|
  (fun lv hl => q_icmp_le (off := 6) (tgt := 75) (zd (i := .if_icmp .le (6)) (n := 3) (by decide +kernel)) (by decide) (fun h => (kt h) lv hl) (fun h => (kf h) lv hl))
theorem w_X8_tells_72 {Q : qQ} {I : qMI} {L : qML} {R : qMR} {a1 : Int32} {a2 : Int32} {a3 : Int32} {a4 : Int32} {a5 : Int32} {a6 : Int32} (hQ : Q (some (.int (-100))) 336 I L R) : wkB l G (d + 1) n_X8_tells Q 72 [.ref 0, .int a1, .int a2, .int a3, .int a4, .int a5, .int a6, wkU] [] I L R :=
  bb_lift (fun _ => q_bipush (n := -100) (zd (i := .bipush (-100)) (n := 2) (by decide +kernel)) rfl) <|
  (fun lv hl => q_iret (zd (i := .ireturn) (n := 1) (by decide +kernel)) rfl rfl (Nat.le_refl _) (Nat.le_refl _) hQ)
theorem w_X8_tells_75 {Q : qQ} {I : qMI} {L : qML} {R : qMR} {o : Nat} (ho : o = 9 ∨ o = 259) {a1 : Int32} {a2 : Int32} {a3 : Int32} {a4 : Int32} {a5 : Int32} {a6 : Int32} (h1 : R 0 12 = some o) (h2 : R 0 2 = some 21) {P : Int32 → qMI → qML → qMR → Prop} (hc : wkCi l G d n_X0_heat [.ref o, .int (I 21 0)] I L R P) (kk : ∀ y I' L' R', P y I' L' R' → wkB l G (d + 1) n_X8_tells Q 89 [.ref 0, .int a1, .int a2, .int a3, .int a4, .int a5, .int a6, wkU] [.int y] I' L' R') : wkB l G (d + 1) n_X8_tells Q 75 [.ref 0, .int a1, .int a2, .int a3, .int a4, .int a5, .int a6, wkU] [] I L R :=
  bb_aload_n (n := 0) (i := 0) (zd (i := .aload_n 0) (n := 1) (by decide +kernel)) rfl rfl <|
  bb_getr (k := 0) (ci := 8) (j := 12) (idx := 71) (a := o) (zd (i := .getfield 71) (n := 3) (by decide +kernel)) (by decide +kernel) (by decide +kernel) (by decide +kernel) (by decide +kernel) rfl g464 h1 <|
  bb_aload_n (n := 0) (i := 0) (zd (i := .aload_n 0) (n := 1) (by decide +kernel)) rfl rfl <|
  bb_getr (k := 0) (ci := 8) (j := 2) (idx := 26) (a := 21) (zd (i := .getfield 26) (n := 3) (by decide +kernel)) (by decide +kernel) (by decide +kernel) (by decide +kernel) (by decide +kernel) rfl g454 h2 <|
  bb_geti (k := 21) (ci := 4) (j := 0) (idx := 140) (zd (i := .getfield 140) (n := 3) (by decide +kernel)) (by decide +kernel) (by decide +kernel) (by decide +kernel) (by decide +kernel) rfl g368 <|
  bb_callV (idx := 143) (k := o) (ci := 0) (N := n_X0_heat) (As := [.int (I 21 0)]) (st := []) (zd (i := .invokevirtual 143) (n := 3) (by decide +kernel)) to_X0_heat g716 g717 g718 (Nat.le_of_ble_eq_true rfl) (by rcases ho with rfl | rfl <;> decide +kernel) (by rcases ho with rfl | rfl <;> decide +kernel) (by decide +kernel) rfl rfl rfl hc (fun r I' L' R' hq => by obtain ⟨y, rfl, hp⟩ := hq; exact kk y I' L' R' hp)
theorem w_X8_tells_89 {Q : qQ} {I : qMI} {L : qML} {R : qMR} {a1 : Int32} {a2 : Int32} {a3 : Int32} {a4 : Int32} {a5 : Int32} {a6 : Int32} {s0 : Int32} (k : qSwt (fun tg => wkB l G (d + 1) n_X8_tells Q tg [.ref 0, .int a1, .int a2, .int a3, .int a4, .int a5, .int a6, .int s0] [] I L R) a1 0 [124, 127, 146, 167] 189) : wkB l G (d + 1) n_X8_tells Q 89 [.ref 0, .int a1, .int a2, .int a3, .int a4, .int a5, .int a6, wkU] [.int s0] I L R :=
  bb_istore (i := 7) (zd (i := .istore 7) (n := 2) (by decide +kernel)) (by decide +kernel) (wkNl_i rfl) <|
  bb_iload_n (n := 1) (i := 1) (zd (i := .iload_n 1) (n := 1) (by decide +kernel)) rfl rfl <|
  bb_table (v := 0) (df := 189) (len := 32) (dflt := 97) (lo := 0) (hi := 3) (offs := #[32, 35, 54, 75]) (tgts := [124, 127, 146, 167]) (zd (i := .tableswitch (97) (0) (3) #[32, 35, 54, 75]) (n := 32) (by decide +kernel)) rfl rfl (by decide +kernel) (by decide +kernel) (by decide +kernel) k
theorem w_X8_tells_124 {Q : qQ} {I : qMI} {L : qML} {R : qMR} {a1 : Int32} {a2 : Int32} {a3 : Int32} {a4 : Int32} {a5 : Int32} {a6 : Int32} {a7 : Int32} (hQ : Q (some (.int a7)) 336 I L R) : wkB l G (d + 1) n_X8_tells Q 124 [.ref 0, .int a1, .int a2, .int a3, .int a4, .int a5, .int a6, .int a7] [] I L R :=
  bb_iload (i := 7) (zd (i := .iload 7) (n := 2) (by decide +kernel)) rfl <|
  (fun lv hl => q_iret (zd (i := .ireturn) (n := 1) (by decide +kernel)) rfl rfl (Nat.le_refl _) (Nat.le_refl _) hQ)
theorem w_X8_tells_127 {Q : qQ} {I : qMI} {L : qML} {R : qMR} {o : Nat} (ho : o = 9 ∨ o = 259) {a1 : Int32} {a2 : Int32} {a3 : Int32} {a4 : Int32} {a5 : Int32} {a6 : Int32} {a7 : Int32} (h1 : R 0 12 = some o) (h2 : R 0 2 = some 21) {P : Int32 → qMI → qML → qMR → Prop} (hc : wkCi l G d n_X0_movedFrom [.ref o, .int a2, .int a3, .int (I 21 0), .int a7] I L R P) (kk : ∀ y I' L' R', P y I' L' R' → wkB l G (d + 1) n_X8_tells Q 145 [.ref 0, .int a1, .int a2, .int a3, .int a4, .int a5, .int a6, .int a7] [.int y] I' L' R') : wkB l G (d + 1) n_X8_tells Q 127 [.ref 0, .int a1, .int a2, .int a3, .int a4, .int a5, .int a6, .int a7] [] I L R :=
  bb_aload_n (n := 0) (i := 0) (zd (i := .aload_n 0) (n := 1) (by decide +kernel)) rfl rfl <|
  bb_getr (k := 0) (ci := 8) (j := 12) (idx := 71) (a := o) (zd (i := .getfield 71) (n := 3) (by decide +kernel)) (by decide +kernel) (by decide +kernel) (by decide +kernel) (by decide +kernel) rfl g464 h1 <|
  bb_iload_n (n := 2) (i := 2) (zd (i := .iload_n 2) (n := 1) (by decide +kernel)) rfl rfl <|
  bb_iload_n (n := 3) (i := 3) (zd (i := .iload_n 3) (n := 1) (by decide +kernel)) rfl rfl <|
  bb_aload_n (n := 0) (i := 0) (zd (i := .aload_n 0) (n := 1) (by decide +kernel)) rfl rfl <|
  bb_getr (k := 0) (ci := 8) (j := 2) (idx := 26) (a := 21) (zd (i := .getfield 26) (n := 3) (by decide +kernel)) (by decide +kernel) (by decide +kernel) (by decide +kernel) (by decide +kernel) rfl g454 h2 <|
  bb_geti (k := 21) (ci := 4) (j := 0) (idx := 140) (zd (i := .getfield 140) (n := 3) (by decide +kernel)) (by decide +kernel) (by decide +kernel) (by decide +kernel) (by decide +kernel) rfl g368 <|
  bb_iload (i := 7) (zd (i := .iload 7) (n := 2) (by decide +kernel)) rfl <|
  bb_callV (idx := 178) (k := o) (ci := 0) (N := n_X0_movedFrom) (As := [.int a2, .int a3, .int (I 21 0), .int a7]) (st := []) (zd (i := .invokevirtual 178) (n := 3) (by decide +kernel)) to_X0_movedFrom g808 g809 g810 (Nat.le_of_ble_eq_true rfl) (by rcases ho with rfl | rfl <;> decide +kernel) (by rcases ho with rfl | rfl <;> decide +kernel) (by decide +kernel) rfl rfl rfl hc (fun r I' L' R' hq => by obtain ⟨y, rfl, hp⟩ := hq; exact kk y I' L' R' hp)
theorem w_X8_tells_145 {Q : qQ} {I : qMI} {L : qML} {R : qMR} {a1 : Int32} {a2 : Int32} {a3 : Int32} {a4 : Int32} {a5 : Int32} {a6 : Int32} {a7 : Int32} {s0 : Int32} (hQ : Q (some (.int s0)) 336 I L R) : wkB l G (d + 1) n_X8_tells Q 145 [.ref 0, .int a1, .int a2, .int a3, .int a4, .int a5, .int a6, .int a7] [.int s0] I L R :=
  (fun lv hl => q_iret (zd (i := .ireturn) (n := 1) (by decide +kernel)) rfl rfl (Nat.le_refl _) (Nat.le_refl _) hQ)
theorem w_X8_tells_146 {Q : qQ} {I : qMI} {L : qML} {R : qMR} {o : Nat} (ho : o = 9 ∨ o = 259) {a1 : Int32} {a2 : Int32} {a3 : Int32} {a4 : Int32} {a5 : Int32} {a6 : Int32} {a7 : Int32} (h1 : R 0 12 = some o) (h2 : R 0 2 = some 21) {P : Int32 → qMI → qML → qMR → Prop} (hc : wkCi l G d n_X0_rentFrom [.ref o, .int a2, .int a3, .int (I 21 0), .int a7, .int a4] I L R P) (kk : ∀ y I' L' R', P y I' L' R' → wkB l G (d + 1) n_X8_tells Q 166 [.ref 0, .int a1, .int a2, .int a3, .int a4, .int a5, .int a6, .int a7] [.int y] I' L' R') : wkB l G (d + 1) n_X8_tells Q 146 [.ref 0, .int a1, .int a2, .int a3, .int a4, .int a5, .int a6, .int a7] [] I L R :=
  bb_aload_n (n := 0) (i := 0) (zd (i := .aload_n 0) (n := 1) (by decide +kernel)) rfl rfl <|
  bb_getr (k := 0) (ci := 8) (j := 12) (idx := 71) (a := o) (zd (i := .getfield 71) (n := 3) (by decide +kernel)) (by decide +kernel) (by decide +kernel) (by decide +kernel) (by decide +kernel) rfl g464 h1 <|
  bb_iload_n (n := 2) (i := 2) (zd (i := .iload_n 2) (n := 1) (by decide +kernel)) rfl rfl <|
  bb_iload_n (n := 3) (i := 3) (zd (i := .iload_n 3) (n := 1) (by decide +kernel)) rfl rfl <|
  bb_aload_n (n := 0) (i := 0) (zd (i := .aload_n 0) (n := 1) (by decide +kernel)) rfl rfl <|
  bb_getr (k := 0) (ci := 8) (j := 2) (idx := 26) (a := 21) (zd (i := .getfield 26) (n := 3) (by decide +kernel)) (by decide +kernel) (by decide +kernel) (by decide +kernel) (by decide +kernel) rfl g454 h2 <|
  bb_geti (k := 21) (ci := 4) (j := 0) (idx := 140) (zd (i := .getfield 140) (n := 3) (by decide +kernel)) (by decide +kernel) (by decide +kernel) (by decide +kernel) (by decide +kernel) rfl g368 <|
  bb_iload (i := 7) (zd (i := .iload 7) (n := 2) (by decide +kernel)) rfl <|
  bb_iload (i := 4) (zd (i := .iload 4) (n := 2) (by decide +kernel)) rfl <|
  bb_callV (idx := 182) (k := o) (ci := 0) (N := n_X0_rentFrom) (As := [.int a2, .int a3, .int (I 21 0), .int a7, .int a4]) (st := []) (zd (i := .invokevirtual 182) (n := 3) (by decide +kernel)) to_X0_rentFrom g816 g817 g818 (Nat.le_of_ble_eq_true rfl) (by rcases ho with rfl | rfl <;> decide +kernel) (by rcases ho with rfl | rfl <;> decide +kernel) (by decide +kernel) rfl rfl rfl hc (fun r I' L' R' hq => by obtain ⟨y, rfl, hp⟩ := hq; exact kk y I' L' R' hp)
theorem w_X8_tells_166 {Q : qQ} {I : qMI} {L : qML} {R : qMR} {a1 : Int32} {a2 : Int32} {a3 : Int32} {a4 : Int32} {a5 : Int32} {a6 : Int32} {a7 : Int32} {s0 : Int32} (hQ : Q (some (.int s0)) 336 I L R) : wkB l G (d + 1) n_X8_tells Q 166 [.ref 0, .int a1, .int a2, .int a3, .int a4, .int a5, .int a6, .int a7] [.int s0] I L R :=
  (fun lv hl => q_iret (zd (i := .ireturn) (n := 1) (by decide +kernel)) rfl rfl (Nat.le_refl _) (Nat.le_refl _) hQ)
theorem w_X8_tells_167 {Q : qQ} {I : qMI} {L : qML} {R : qMR} {o : Nat} (ho : o = 9 ∨ o = 259) {a1 : Int32} {a2 : Int32} {a3 : Int32} {a4 : Int32} {a5 : Int32} {a6 : Int32} {a7 : Int32} (h1 : R 0 12 = some o) (h2 : R o 12 = some (o + 6)) (h3 : R 0 2 = some 21) {P : Int32 → qMI → qML → qMR → Prop} (hc : wkCi l G d n_X2_interest [.ref (o + 6), .int (I 21 0), .int a7, .int a4] I L R P) (kk : ∀ y I' L' R', P y I' L' R' → wkB l G (d + 1) n_X8_tells Q 188 [.ref 0, .int a1, .int a2, .int a3, .int a4, .int a5, .int a6, .int a7] [.int y] I' L' R') : wkB l G (d + 1) n_X8_tells Q 167 [.ref 0, .int a1, .int a2, .int a3, .int a4, .int a5, .int a6, .int a7] [] I L R :=
  bb_aload_n (n := 0) (i := 0) (zd (i := .aload_n 0) (n := 1) (by decide +kernel)) rfl rfl <|
  bb_getr (k := 0) (ci := 8) (j := 12) (idx := 71) (a := o) (zd (i := .getfield 71) (n := 3) (by decide +kernel)) (by decide +kernel) (by decide +kernel) (by decide +kernel) (by decide +kernel) rfl g464 h1 <|
  bb_getr (k := o) (ci := 0) (j := 12) (idx := 186) (a := (o + 6)) (zd (i := .getfield 186) (n := 3) (by decide +kernel)) (by rcases ho with rfl | rfl <;> decide +kernel) (by rcases ho with rfl | rfl <;> decide +kernel) (by decide +kernel) (by decide +kernel) rfl g306 h2 <|
  bb_aload_n (n := 0) (i := 0) (zd (i := .aload_n 0) (n := 1) (by decide +kernel)) rfl rfl <|
  bb_getr (k := 0) (ci := 8) (j := 2) (idx := 26) (a := 21) (zd (i := .getfield 26) (n := 3) (by decide +kernel)) (by decide +kernel) (by decide +kernel) (by decide +kernel) (by decide +kernel) rfl g454 h3 <|
  bb_geti (k := 21) (ci := 4) (j := 0) (idx := 140) (zd (i := .getfield 140) (n := 3) (by decide +kernel)) (by decide +kernel) (by decide +kernel) (by decide +kernel) (by decide +kernel) rfl g368 <|
  bb_iload (i := 7) (zd (i := .iload 7) (n := 2) (by decide +kernel)) rfl <|
  bb_iload (i := 4) (zd (i := .iload 4) (n := 2) (by decide +kernel)) rfl <|
  bb_callV (idx := 190) (k := (o + 6)) (ci := 2) (N := n_X2_interest) (As := [.int (I 21 0), .int a7, .int a4]) (st := []) (zd (i := .invokevirtual 190) (n := 3) (by decide +kernel)) to_X2_interest g824 g825 g826 (Nat.le_of_ble_eq_true rfl) (by rcases ho with rfl | rfl <;> decide +kernel) (by rcases ho with rfl | rfl <;> decide +kernel) (by decide +kernel) rfl rfl rfl hc (fun r I' L' R' hq => by obtain ⟨y, rfl, hp⟩ := hq; exact kk y I' L' R' hp)
theorem w_X8_tells_188 {Q : qQ} {I : qMI} {L : qML} {R : qMR} {a1 : Int32} {a2 : Int32} {a3 : Int32} {a4 : Int32} {a5 : Int32} {a6 : Int32} {a7 : Int32} {s0 : Int32} (hQ : Q (some (.int s0)) 336 I L R) : wkB l G (d + 1) n_X8_tells Q 188 [.ref 0, .int a1, .int a2, .int a3, .int a4, .int a5, .int a6, .int a7] [.int s0] I L R :=
  (fun lv hl => q_iret (zd (i := .ireturn) (n := 1) (by decide +kernel)) rfl rfl (Nat.le_refl _) (Nat.le_refl _) hQ)
theorem w_X8_tells_189 {Q : qQ} {I : qMI} {L : qML} {R : qMR} {a1 : Int32} {a2 : Int32} {a3 : Int32} {a4 : Int32} {a5 : Int32} {a6 : Int32} {a7 : Int32} (hQ : Q (some (.int (-100))) 336 I L R) : wkB l G (d + 1) n_X8_tells Q 189 [.ref 0, .int a1, .int a2, .int a3, .int a4, .int a5, .int a6, .int a7] [] I L R :=
  bb_lift (fun _ => q_bipush (n := -100) (zd (i := .bipush (-100)) (n := 2) (by decide +kernel)) rfl) <|
  (fun lv hl => q_iret (zd (i := .ireturn) (n := 1) (by decide +kernel)) rfl rfl (Nat.le_refl _) (Nat.le_refl _) hQ)
theorem w_X8_count_0 {Q : qQ} {I : qMI} {L : qML} {R : qMR} {a1 : Int32} (k : qSwt (fun tg => wkB l G (d + 1) n_X8_count Q tg [.ref 0, .int a1] [] I L R) a1 0 [84, 92, 100, 108, 119, 130, 138, 149, 160, 171, 179, 187, 195, 200, 233, 244, 259] 271) : wkB l G (d + 1) n_X8_count Q 0 [.ref 0, .int a1] [] I L R :=
  bb_iload_n (n := 1) (i := 1) (zd (i := .iload_n 1) (n := 1) (by decide +kernel)) rfl rfl <|
  bb_table (v := 0) (df := 271) (len := 83) (dflt := 270) (lo := 0) (hi := 16) (offs := #[83, 91, 99, 107, 118, 129, 137, 148, 159, 170, 178, 186, 194, 199, 232, 243, 258]) (tgts := [84, 92, 100, 108, 119, 130, 138, 149, 160, 171, 179, 187, 195, 200, 233, 244, 259]) (zd (i := .tableswitch (270) (0) (16) #[83, 91, 99, 107, 118, 129, 137, 148, 159, 170, 178, 186, 194, 199, 232, 243, 258]) (n := 83) (by decide +kernel)) rfl rfl (by decide +kernel) (by decide +kernel) (by decide +kernel) k
theorem w_X8_count_84 {Q : qQ} {I : qMI} {L : qML} {R : qMR} {o : Nat} (ho : o = 9 ∨ o = 259) {a1 : Int32} (h1 : R 0 12 = some o) (hQ : Q (some (.int (I o 2))) 336 I L R) : wkB l G (d + 1) n_X8_count Q 84 [.ref 0, .int a1] [] I L R :=
  bb_aload_n (n := 0) (i := 0) (zd (i := .aload_n 0) (n := 1) (by decide +kernel)) rfl rfl <|
  bb_getr (k := 0) (ci := 8) (j := 12) (idx := 71) (a := o) (zd (i := .getfield 71) (n := 3) (by decide +kernel)) (by decide +kernel) (by decide +kernel) (by decide +kernel) (by decide +kernel) rfl g464 h1 <|
  bb_geti (k := o) (ci := 0) (j := 2) (idx := 236) (zd (i := .getfield 236) (n := 3) (by decide +kernel)) (by rcases ho with rfl | rfl <;> decide +kernel) (by rcases ho with rfl | rfl <;> decide +kernel) (by decide +kernel) (by decide +kernel) rfl g280 <|
  (fun lv hl => q_iret (zd (i := .ireturn) (n := 1) (by decide +kernel)) rfl rfl (Nat.le_refl _) (Nat.le_refl _) hQ)
theorem w_X8_count_92 {Q : qQ} {I : qMI} {L : qML} {R : qMR} {o : Nat} (ho : o = 9 ∨ o = 259) {a1 : Int32} (h1 : R 0 12 = some o) (hQ : Q (some (.int (I o 5))) 336 I L R) : wkB l G (d + 1) n_X8_count Q 92 [.ref 0, .int a1] [] I L R :=
  bb_aload_n (n := 0) (i := 0) (zd (i := .aload_n 0) (n := 1) (by decide +kernel)) rfl rfl <|
  bb_getr (k := 0) (ci := 8) (j := 12) (idx := 71) (a := o) (zd (i := .getfield 71) (n := 3) (by decide +kernel)) (by decide +kernel) (by decide +kernel) (by decide +kernel) (by decide +kernel) rfl g464 h1 <|
  bb_geti (k := o) (ci := 0) (j := 5) (idx := 230) (zd (i := .getfield 230) (n := 3) (by decide +kernel)) (by rcases ho with rfl | rfl <;> decide +kernel) (by rcases ho with rfl | rfl <;> decide +kernel) (by decide +kernel) (by decide +kernel) rfl g288 <|
  (fun lv hl => q_iret (zd (i := .ireturn) (n := 1) (by decide +kernel)) rfl rfl (Nat.le_refl _) (Nat.le_refl _) hQ)
theorem w_X8_count_100 {Q : qQ} {I : qMI} {L : qML} {R : qMR} {a1 : Int32} (h1 : R 0 2 = some 21) (hQ : Q (some (.int (I 21 0))) 336 I L R) : wkB l G (d + 1) n_X8_count Q 100 [.ref 0, .int a1] [] I L R :=
  bb_aload_n (n := 0) (i := 0) (zd (i := .aload_n 0) (n := 1) (by decide +kernel)) rfl rfl <|
  bb_getr (k := 0) (ci := 8) (j := 2) (idx := 26) (a := 21) (zd (i := .getfield 26) (n := 3) (by decide +kernel)) (by decide +kernel) (by decide +kernel) (by decide +kernel) (by decide +kernel) rfl g454 h1 <|
  bb_geti (k := 21) (ci := 4) (j := 0) (idx := 140) (zd (i := .getfield 140) (n := 3) (by decide +kernel)) (by decide +kernel) (by decide +kernel) (by decide +kernel) (by decide +kernel) rfl g368 <|
  (fun lv hl => q_iret (zd (i := .ireturn) (n := 1) (by decide +kernel)) rfl rfl (Nat.le_refl _) (Nat.le_refl _) hQ)
theorem w_X8_count_108 {Q : qQ} {I : qMI} {L : qML} {R : qMR} {a1 : Int32} (h1 : R 0 2 = some 21) (hQ : Q (some (.int ((I 21 0) - (I 21 0) / 24 * 24))) 336 I L R) : wkB l G (d + 1) n_X8_count Q 108 [.ref 0, .int a1] [] I L R :=
  bb_aload_n (n := 0) (i := 0) (zd (i := .aload_n 0) (n := 1) (by decide +kernel)) rfl rfl <|
  bb_getr (k := 0) (ci := 8) (j := 2) (idx := 26) (a := 21) (zd (i := .getfield 26) (n := 3) (by decide +kernel)) (by decide +kernel) (by decide +kernel) (by decide +kernel) (by decide +kernel) rfl g454 h1 <|
  bb_geti (k := 21) (ci := 4) (j := 0) (idx := 140) (zd (i := .getfield 140) (n := 3) (by decide +kernel)) (by decide +kernel) (by decide +kernel) (by decide +kernel) (by decide +kernel) rfl g368 <|
  bb_lift (fun _ => q_bipush (n := 24) (zd (i := .bipush (24)) (n := 2) (by decide +kernel)) rfl) <|
  bb_lift (fun _ => q_irem (zd (i := .irem) (n := 1) (by decide +kernel)) (by decide)) <|
  (fun lv hl => q_iret (zd (i := .ireturn) (n := 1) (by decide +kernel)) rfl rfl (Nat.le_refl _) (Nat.le_refl _) hQ)
theorem w_X8_count_119 {Q : qQ} {I : qMI} {L : qML} {R : qMR} {a1 : Int32} (h1 : R 0 2 = some 21) (hQ : Q (some (.int ((I 21 0) / 24))) 336 I L R) : wkB l G (d + 1) n_X8_count Q 119 [.ref 0, .int a1] [] I L R :=
  bb_aload_n (n := 0) (i := 0) (zd (i := .aload_n 0) (n := 1) (by decide +kernel)) rfl rfl <|
  bb_getr (k := 0) (ci := 8) (j := 2) (idx := 26) (a := 21) (zd (i := .getfield 26) (n := 3) (by decide +kernel)) (by decide +kernel) (by decide +kernel) (by decide +kernel) (by decide +kernel) rfl g454 h1 <|
  bb_geti (k := 21) (ci := 4) (j := 0) (idx := 140) (zd (i := .getfield 140) (n := 3) (by decide +kernel)) (by decide +kernel) (by decide +kernel) (by decide +kernel) (by decide +kernel) rfl g368 <|
  bb_lift (fun _ => q_bipush (n := 24) (zd (i := .bipush (24)) (n := 2) (by decide +kernel)) rfl) <|
  bb_lift (fun _ => q_idiv (zd (i := .idiv) (n := 1) (by decide +kernel)) (by decide)) <|
  (fun lv hl => q_iret (zd (i := .ireturn) (n := 1) (by decide +kernel)) rfl rfl (Nat.le_refl _) (Nat.le_refl _) hQ)
theorem w_X8_count_130 {Q : qQ} {I : qMI} {L : qML} {R : qMR} {a1 : Int32} (h1 : R 0 2 = some 21) {P : Int32 → qMI → qML → qMR → Prop} (hc : wkCi l G d n_X4_loans [.ref 21] I L R P) (kk : ∀ y I' L' R', P y I' L' R' → wkB l G (d + 1) n_X8_count Q 137 [.ref 0, .int a1] [.int y] I' L' R') : wkB l G (d + 1) n_X8_count Q 130 [.ref 0, .int a1] [] I L R :=
  bb_aload_n (n := 0) (i := 0) (zd (i := .aload_n 0) (n := 1) (by decide +kernel)) rfl rfl <|
  bb_getr (k := 0) (ci := 8) (j := 2) (idx := 26) (a := 21) (zd (i := .getfield 26) (n := 3) (by decide +kernel)) (by decide +kernel) (by decide +kernel) (by decide +kernel) (by decide +kernel) rfl g454 h1 <|
  bb_callV (idx := 314) (k := 21) (ci := 4) (N := n_X4_loans) (As := []) (st := []) (zd (i := .invokevirtual 314) (n := 3) (by decide +kernel)) to_X4_loans g1092 g1093 g1094 (Nat.le_of_ble_eq_true rfl) (by decide +kernel) (by decide +kernel) (by decide +kernel) rfl rfl rfl hc (fun r I' L' R' hq => by obtain ⟨y, rfl, hp⟩ := hq; exact kk y I' L' R' hp)
theorem w_X8_count_137 {Q : qQ} {I : qMI} {L : qML} {R : qMR} {a1 : Int32} {s0 : Int32} (hQ : Q (some (.int s0)) 336 I L R) : wkB l G (d + 1) n_X8_count Q 137 [.ref 0, .int a1] [.int s0] I L R :=
  (fun lv hl => q_iret (zd (i := .ireturn) (n := 1) (by decide +kernel)) rfl rfl (Nat.le_refl _) (Nat.le_refl _) hQ)
theorem w_X8_count_138 {Q : qQ} {I : qMI} {L : qML} {R : qMR} {a1 : Int32} (h1 : R 0 2 = some 21) (h2 : R 21 5 = some 26) {P : Int32 → qMI → qML → qMR → Prop} (hc : wkCi l G d n_X8_sum [.ref 26] I L R P) (kk : ∀ y I' L' R', P y I' L' R' → wkB l G (d + 1) n_X8_count Q 148 [.ref 0, .int a1] [.int y] I' L' R') : wkB l G (d + 1) n_X8_count Q 138 [.ref 0, .int a1] [] I L R :=
  bb_aload_n (n := 0) (i := 0) (zd (i := .aload_n 0) (n := 1) (by decide +kernel)) rfl rfl <|
  bb_getr (k := 0) (ci := 8) (j := 2) (idx := 26) (a := 21) (zd (i := .getfield 26) (n := 3) (by decide +kernel)) (by decide +kernel) (by decide +kernel) (by decide +kernel) (by decide +kernel) rfl g454 h1 <|
  bb_getr (k := 21) (ci := 4) (j := 5) (idx := 169) (a := 26) (zd (i := .getfield 169) (n := 3) (by decide +kernel)) (by decide +kernel) (by decide +kernel) (by decide +kernel) (by decide +kernel) rfl g383 h2 <|
  bb_callS (idx := 318) (N := n_X8_sum) (As := [.ref 26]) (st := []) (zd (i := .invokestatic 318) (n := 3) (by decide +kernel)) to_X8_sum g1096 g1097 (Nat.le_of_ble_eq_true rfl) rfl rfl hc (fun r I' L' R' hq => by obtain ⟨y, rfl, hp⟩ := hq; exact kk y I' L' R' hp)
theorem w_X8_count_148 {Q : qQ} {I : qMI} {L : qML} {R : qMR} {a1 : Int32} {s0 : Int32} (hQ : Q (some (.int s0)) 336 I L R) : wkB l G (d + 1) n_X8_count Q 148 [.ref 0, .int a1] [.int s0] I L R :=
  (fun lv hl => q_iret (zd (i := .ireturn) (n := 1) (by decide +kernel)) rfl rfl (Nat.le_refl _) (Nat.le_refl _) hQ)
theorem w_X8_count_149 {Q : qQ} {I : qMI} {L : qML} {R : qMR} {a1 : Int32} (h1 : R 0 2 = some 21) (h2 : R 21 2 = some 23) {P : Int32 → qMI → qML → qMR → Prop} (hc : wkCi l G d n_X8_sum [.ref 23] I L R P) (kk : ∀ y I' L' R', P y I' L' R' → wkB l G (d + 1) n_X8_count Q 159 [.ref 0, .int a1] [.int y] I' L' R') : wkB l G (d + 1) n_X8_count Q 149 [.ref 0, .int a1] [] I L R :=
  bb_aload_n (n := 0) (i := 0) (zd (i := .aload_n 0) (n := 1) (by decide +kernel)) rfl rfl <|
  bb_getr (k := 0) (ci := 8) (j := 2) (idx := 26) (a := 21) (zd (i := .getfield 26) (n := 3) (by decide +kernel)) (by decide +kernel) (by decide +kernel) (by decide +kernel) (by decide +kernel) rfl g454 h1 <|
  bb_getr (k := 21) (ci := 4) (j := 2) (idx := 137) (a := 23) (zd (i := .getfield 137) (n := 3) (by decide +kernel)) (by decide +kernel) (by decide +kernel) (by decide +kernel) (by decide +kernel) rfl g374 h2 <|
  bb_callS (idx := 318) (N := n_X8_sum) (As := [.ref 23]) (st := []) (zd (i := .invokestatic 318) (n := 3) (by decide +kernel)) to_X8_sum g1096 g1097 (Nat.le_of_ble_eq_true rfl) rfl rfl hc (fun r I' L' R' hq => by obtain ⟨y, rfl, hp⟩ := hq; exact kk y I' L' R' hp)
theorem w_X8_count_159 {Q : qQ} {I : qMI} {L : qML} {R : qMR} {a1 : Int32} {s0 : Int32} (hQ : Q (some (.int s0)) 336 I L R) : wkB l G (d + 1) n_X8_count Q 159 [.ref 0, .int a1] [.int s0] I L R :=
  (fun lv hl => q_iret (zd (i := .ireturn) (n := 1) (by decide +kernel)) rfl rfl (Nat.le_refl _) (Nat.le_refl _) hQ)
theorem w_X8_count_160 {Q : qQ} {I : qMI} {L : qML} {R : qMR} {a1 : Int32} (h1 : R 0 2 = some 21) (h2 : R 21 3 = some 24) {P : Int32 → qMI → qML → qMR → Prop} (hc : wkCi l G d n_X8_sum [.ref 24] I L R P) (kk : ∀ y I' L' R', P y I' L' R' → wkB l G (d + 1) n_X8_count Q 170 [.ref 0, .int a1] [.int y] I' L' R') : wkB l G (d + 1) n_X8_count Q 160 [.ref 0, .int a1] [] I L R :=
  bb_aload_n (n := 0) (i := 0) (zd (i := .aload_n 0) (n := 1) (by decide +kernel)) rfl rfl <|
  bb_getr (k := 0) (ci := 8) (j := 2) (idx := 26) (a := 21) (zd (i := .getfield 26) (n := 3) (by decide +kernel)) (by decide +kernel) (by decide +kernel) (by decide +kernel) (by decide +kernel) rfl g454 h1 <|
  bb_getr (k := 21) (ci := 4) (j := 3) (idx := 156) (a := 24) (zd (i := .getfield 156) (n := 3) (by decide +kernel)) (by decide +kernel) (by decide +kernel) (by decide +kernel) (by decide +kernel) rfl g377 h2 <|
  bb_callS (idx := 318) (N := n_X8_sum) (As := [.ref 24]) (st := []) (zd (i := .invokestatic 318) (n := 3) (by decide +kernel)) to_X8_sum g1096 g1097 (Nat.le_of_ble_eq_true rfl) rfl rfl hc (fun r I' L' R' hq => by obtain ⟨y, rfl, hp⟩ := hq; exact kk y I' L' R' hp)
theorem w_X8_count_170 {Q : qQ} {I : qMI} {L : qML} {R : qMR} {a1 : Int32} {s0 : Int32} (hQ : Q (some (.int s0)) 336 I L R) : wkB l G (d + 1) n_X8_count Q 170 [.ref 0, .int a1] [.int s0] I L R :=
  (fun lv hl => q_iret (zd (i := .ireturn) (n := 1) (by decide +kernel)) rfl rfl (Nat.le_refl _) (Nat.le_refl _) hQ)
theorem w_X8_count_171 {Q : qQ} {I : qMI} {L : qML} {R : qMR} {a1 : Int32} (h1 : R 0 0 = some 1) (hQ : Q (some (.int (I 1 1))) 336 I L R) : wkB l G (d + 1) n_X8_count Q 171 [.ref 0, .int a1] [] I L R :=
  bb_aload_n (n := 0) (i := 0) (zd (i := .aload_n 0) (n := 1) (by decide +kernel)) rfl rfl <|
  bb_getr (k := 0) (ci := 8) (j := 0) (idx := 12) (a := 1) (zd (i := .getfield 12) (n := 3) (by decide +kernel)) (by decide +kernel) (by decide +kernel) (by decide +kernel) (by decide +kernel) rfl g452 h1 <|
  bb_geti (k := 1) (ci := 5) (j := 1) (idx := 87) (zd (i := .getfield 87) (n := 3) (by decide +kernel)) (by decide +kernel) (by decide +kernel) (by decide +kernel) (by decide +kernel) rfl g131 <|
  (fun lv hl => q_iret (zd (i := .ireturn) (n := 1) (by decide +kernel)) rfl rfl (Nat.le_refl _) (Nat.le_refl _) hQ)
theorem w_X8_count_179 {Q : qQ} {I : qMI} {L : qML} {R : qMR} {a1 : Int32} (h1 : R 0 4 = some 35) (hQ : Q (some (.int (I 35 2))) 336 I L R) : wkB l G (d + 1) n_X8_count Q 179 [.ref 0, .int a1] [] I L R :=
  bb_aload_n (n := 0) (i := 0) (zd (i := .aload_n 0) (n := 1) (by decide +kernel)) rfl rfl <|
  bb_getr (k := 0) (ci := 8) (j := 4) (idx := 36) (a := 35) (zd (i := .getfield 36) (n := 3) (by decide +kernel)) (by decide +kernel) (by decide +kernel) (by decide +kernel) (by decide +kernel) rfl g456 h1 <|
  bb_geti (k := 35) (ci := 3) (j := 2) (idx := 322) (zd (i := .getfield 322) (n := 3) (by decide +kernel)) (by decide +kernel) (by decide +kernel) (by decide +kernel) (by decide +kernel) rfl g415 <|
  (fun lv hl => q_iret (zd (i := .ireturn) (n := 1) (by decide +kernel)) rfl rfl (Nat.le_refl _) (Nat.le_refl _) hQ)
theorem w_X8_count_187 {Q : qQ} {I : qMI} {L : qML} {R : qMR} {a1 : Int32} (h1 : R 0 7 = some 249) (hQ : Q (some (.int (I 249 0))) 336 I L R) : wkB l G (d + 1) n_X8_count Q 187 [.ref 0, .int a1] [] I L R :=
  bb_aload_n (n := 0) (i := 0) (zd (i := .aload_n 0) (n := 1) (by decide +kernel)) rfl rfl <|
  bb_getr (k := 0) (ci := 8) (j := 7) (idx := 51) (a := 249) (zd (i := .getfield 51) (n := 3) (by decide +kernel)) (by decide +kernel) (by decide +kernel) (by decide +kernel) (by decide +kernel) rfl g459 h1 <|
  bb_geti (k := 249) (ci := 7) (j := 0) (idx := 114) (zd (i := .getfield 114) (n := 3) (by decide +kernel)) (by decide +kernel) (by decide +kernel) (by decide +kernel) (by decide +kernel) rfl g430 <|
  (fun lv hl => q_iret (zd (i := .ireturn) (n := 1) (by decide +kernel)) rfl rfl (Nat.le_refl _) (Nat.le_refl _) hQ)
theorem w_X8_count_195 {Q : qQ} {I : qMI} {L : qML} {R : qMR} {a1 : Int32} {P : Int32 → qMI → qML → qMR → Prop} (hc : wkCi l G d n_X8_heldSlots [.ref 0] I L R P) (kk : ∀ y I' L' R', P y I' L' R' → wkB l G (d + 1) n_X8_count Q 199 [.ref 0, .int a1] [.int y] I' L' R') : wkB l G (d + 1) n_X8_count Q 195 [.ref 0, .int a1] [] I L R :=
  bb_aload_n (n := 0) (i := 0) (zd (i := .aload_n 0) (n := 1) (by decide +kernel)) rfl rfl <|
  bb_callV (idx := 323) (k := 0) (ci := 8) (N := n_X8_heldSlots) (As := []) (st := []) (zd (i := .invokevirtual 323) (n := 3) (by decide +kernel)) to_X8_heldSlots g1099 g1101 g40 (Nat.le_of_ble_eq_true rfl) (by decide +kernel) (by decide +kernel) (by decide +kernel) rfl rfl rfl hc (fun r I' L' R' hq => by obtain ⟨y, rfl, hp⟩ := hq; exact kk y I' L' R' hp)
theorem w_X8_count_199 {Q : qQ} {I : qMI} {L : qML} {R : qMR} {a1 : Int32} {s0 : Int32} (hQ : Q (some (.int s0)) 336 I L R) : wkB l G (d + 1) n_X8_count Q 199 [.ref 0, .int a1] [.int s0] I L R :=
  (fun lv hl => q_iret (zd (i := .ireturn) (n := 1) (by decide +kernel)) rfl rfl (Nat.le_refl _) (Nat.le_refl _) hQ)
theorem w_X8_count_200 {Q : qQ} {I : qMI} {L : qML} {R : qMR} {o : Nat} (ho : o = 9 ∨ o = 259) {a1 : Int32} (h1 : R 0 2 = some 21) (h2 : R 0 12 = some o) (h3 : R 0 12 = some o) {P : Int32 → qMI → qML → qMR → Prop} (hc : wkCi l G d n_X0_isWind [.int (I 21 0), .int (I o 11), .int (I o 9)] I L R P) (kk : ∀ y I' L' R', P y I' L' R' → wkB l G (d + 1) n_X8_count Q 224 [.ref 0, .int a1] [.int y] I' L' R') : wkB l G (d + 1) n_X8_count Q 200 [.ref 0, .int a1] [] I L R :=
  bb_aload_n (n := 0) (i := 0) (zd (i := .aload_n 0) (n := 1) (by decide +kernel)) rfl rfl <|
  bb_getr (k := 0) (ci := 8) (j := 2) (idx := 26) (a := 21) (zd (i := .getfield 26) (n := 3) (by decide +kernel)) (by decide +kernel) (by decide +kernel) (by decide +kernel) (by decide +kernel) rfl g454 h1 <|
  bb_geti (k := 21) (ci := 4) (j := 0) (idx := 140) (zd (i := .getfield 140) (n := 3) (by decide +kernel)) (by decide +kernel) (by decide +kernel) (by decide +kernel) (by decide +kernel) rfl g368 <|
  bb_aload_n (n := 0) (i := 0) (zd (i := .aload_n 0) (n := 1) (by decide +kernel)) rfl rfl <|
  bb_getr (k := 0) (ci := 8) (j := 12) (idx := 71) (a := o) (zd (i := .getfield 71) (n := 3) (by decide +kernel)) (by decide +kernel) (by decide +kernel) (by decide +kernel) (by decide +kernel) rfl g464 h2 <|
  bb_geti (k := o) (ci := 0) (j := 11) (idx := 210) (zd (i := .getfield 210) (n := 3) (by decide +kernel)) (by rcases ho with rfl | rfl <;> decide +kernel) (by rcases ho with rfl | rfl <;> decide +kernel) (by decide +kernel) (by decide +kernel) rfl g303 <|
  bb_aload_n (n := 0) (i := 0) (zd (i := .aload_n 0) (n := 1) (by decide +kernel)) rfl rfl <|
  bb_getr (k := 0) (ci := 8) (j := 12) (idx := 71) (a := o) (zd (i := .getfield 71) (n := 3) (by decide +kernel)) (by decide +kernel) (by decide +kernel) (by decide +kernel) (by decide +kernel) rfl g464 h3 <|
  bb_geti (k := o) (ci := 0) (j := 9) (idx := 213) (zd (i := .getfield 213) (n := 3) (by decide +kernel)) (by rcases ho with rfl | rfl <;> decide +kernel) (by rcases ho with rfl | rfl <;> decide +kernel) (by decide +kernel) (by decide +kernel) rfl g297 <|
  bb_callS (idx := 326) (N := n_X0_isWind) (As := [.int (I 21 0), .int (I o 11), .int (I o 9)]) (st := []) (zd (i := .invokestatic 326) (n := 3) (by decide +kernel)) to_X0_isWind g1103 g871 (Nat.le_of_ble_eq_true rfl) rfl rfl hc (fun r I' L' R' hq => by obtain ⟨y, rfl, hp⟩ := hq; exact kk y I' L' R' hp)
theorem w_X8_count_224 {Q : qQ} {I : qMI} {L : qML} {R : qMR} {a1 : Int32} {s0 : Int32} (kt : s0 = 0 → wkB l G (d + 1) n_X8_count Q 231 [.ref 0, .int a1] [] I L R) (kf : ¬ s0 = 0 → wkB l G (d + 1) n_X8_count Q 227 [.ref 0, .int a1] [] I L R) : wkB l G (d + 1) n_X8_count Q 224 [.ref 0, .int a1] [.int s0] I L R :=
  (fun lv hl => q_if_eq (off := 7) (tgt := 231) (zd (i := .ifCond .eq (7)) (n := 3) (by decide +kernel)) (by decide) (fun h => (kt h) lv hl) (fun h => (kf h) lv hl))
theorem w_X8_count_227 {Q : qQ} {I : qMI} {L : qML} {R : qMR} {a1 : Int32} (k : wkB l G (d + 1) n_X8_count Q 232 [.ref 0, .int a1] [.int 1] I L R) : wkB l G (d + 1) n_X8_count Q 227 [.ref 0, .int a1] [] I L R :=
  bb_lift (fun _ => q_iconst (n := 1) (zd (i := .iconst (1)) (n := 1) (by decide +kernel)) rfl) <|
  bb_lift (fun _ => q_goto (off := 4) (tgt := 232) (zd (i := .goto (4)) (n := 3) (by decide +kernel)) (by decide)) k
theorem w_X8_count_231 {Q : qQ} {I : qMI} {L : qML} {R : qMR} {a1 : Int32} (k : wkB l G (d + 1) n_X8_count Q 232 [.ref 0, .int a1] [.int 0] I L R) : wkB l G (d + 1) n_X8_count Q 231 [.ref 0, .int a1] [] I L R :=
  bb_lift (fun _ => q_iconst (n := 0) (zd (i := .iconst (0)) (n := 1) (by decide +kernel)) rfl) <|
  k
theorem w_X8_count_232 {Q : qQ} {I : qMI} {L : qML} {R : qMR} {a1 : Int32} {s0 : Int32} (hQ : Q (some (.int s0)) 336 I L R) : wkB l G (d + 1) n_X8_count Q 232 [.ref 0, .int a1] [.int s0] I L R :=
  (fun lv hl => q_iret (zd (i := .ireturn) (n := 1) (by decide +kernel)) rfl rfl (Nat.le_refl _) (Nat.le_refl _) hQ)
theorem w_X8_count_233 {Q : qQ} {I : qMI} {L : qML} {R : qMR} {a1 : Int32} (h1 : R 0 2 = some 21) (h2 : R 21 4 = some 25) {P : Int32 → qMI → qML → qMR → Prop} (hc : wkCi l G d n_X8_sum [.ref 25] I L R P) (kk : ∀ y I' L' R', P y I' L' R' → wkB l G (d + 1) n_X8_count Q 243 [.ref 0, .int a1] [.int y] I' L' R') : wkB l G (d + 1) n_X8_count Q 233 [.ref 0, .int a1] [] I L R :=
  bb_aload_n (n := 0) (i := 0) (zd (i := .aload_n 0) (n := 1) (by decide +kernel)) rfl rfl <|
  bb_getr (k := 0) (ci := 8) (j := 2) (idx := 26) (a := 21) (zd (i := .getfield 26) (n := 3) (by decide +kernel)) (by decide +kernel) (by decide +kernel) (by decide +kernel) (by decide +kernel) rfl g454 h1 <|
  bb_getr (k := 21) (ci := 4) (j := 4) (idx := 159) (a := 25) (zd (i := .getfield 159) (n := 3) (by decide +kernel)) (by decide +kernel) (by decide +kernel) (by decide +kernel) (by decide +kernel) rfl g380 h2 <|
  bb_callS (idx := 318) (N := n_X8_sum) (As := [.ref 25]) (st := []) (zd (i := .invokestatic 318) (n := 3) (by decide +kernel)) to_X8_sum g1096 g1097 (Nat.le_of_ble_eq_true rfl) rfl rfl hc (fun r I' L' R' hq => by obtain ⟨y, rfl, hp⟩ := hq; exact kk y I' L' R' hp)
theorem w_X8_count_243 {Q : qQ} {I : qMI} {L : qML} {R : qMR} {a1 : Int32} {s0 : Int32} (hQ : Q (some (.int s0)) 336 I L R) : wkB l G (d + 1) n_X8_count Q 243 [.ref 0, .int a1] [.int s0] I L R :=
  (fun lv hl => q_iret (zd (i := .ireturn) (n := 1) (by decide +kernel)) rfl rfl (Nat.le_refl _) (Nat.le_refl _) hQ)
theorem w_X8_count_244 {Q : qQ} {I : qMI} {L : qML} {R : qMR} {o : Nat} (ho : o = 9 ∨ o = 259) {a1 : Int32} (h1 : R 0 12 = some o) (h2 : R 0 2 = some 21) {P : Int32 → qMI → qML → qMR → Prop} (hc : wkCi l G d n_X0_heat [.ref o, .int (I 21 0)] I L R P) (kk : ∀ y I' L' R', P y I' L' R' → wkB l G (d + 1) n_X8_count Q 258 [.ref 0, .int a1] [.int y] I' L' R') : wkB l G (d + 1) n_X8_count Q 244 [.ref 0, .int a1] [] I L R :=
  bb_aload_n (n := 0) (i := 0) (zd (i := .aload_n 0) (n := 1) (by decide +kernel)) rfl rfl <|
  bb_getr (k := 0) (ci := 8) (j := 12) (idx := 71) (a := o) (zd (i := .getfield 71) (n := 3) (by decide +kernel)) (by decide +kernel) (by decide +kernel) (by decide +kernel) (by decide +kernel) rfl g464 h1 <|
  bb_aload_n (n := 0) (i := 0) (zd (i := .aload_n 0) (n := 1) (by decide +kernel)) rfl rfl <|
  bb_getr (k := 0) (ci := 8) (j := 2) (idx := 26) (a := 21) (zd (i := .getfield 26) (n := 3) (by decide +kernel)) (by decide +kernel) (by decide +kernel) (by decide +kernel) (by decide +kernel) rfl g454 h2 <|
  bb_geti (k := 21) (ci := 4) (j := 0) (idx := 140) (zd (i := .getfield 140) (n := 3) (by decide +kernel)) (by decide +kernel) (by decide +kernel) (by decide +kernel) (by decide +kernel) rfl g368 <|
  bb_callV (idx := 143) (k := o) (ci := 0) (N := n_X0_heat) (As := [.int (I 21 0)]) (st := []) (zd (i := .invokevirtual 143) (n := 3) (by decide +kernel)) to_X0_heat g716 g717 g718 (Nat.le_of_ble_eq_true rfl) (by rcases ho with rfl | rfl <;> decide +kernel) (by rcases ho with rfl | rfl <;> decide +kernel) (by decide +kernel) rfl rfl rfl hc (fun r I' L' R' hq => by obtain ⟨y, rfl, hp⟩ := hq; exact kk y I' L' R' hp)
theorem w_X8_count_258 {Q : qQ} {I : qMI} {L : qML} {R : qMR} {a1 : Int32} {s0 : Int32} (hQ : Q (some (.int s0)) 336 I L R) : wkB l G (d + 1) n_X8_count Q 258 [.ref 0, .int a1] [.int s0] I L R :=
  (fun lv hl => q_iret (zd (i := .ireturn) (n := 1) (by decide +kernel)) rfl rfl (Nat.le_refl _) (Nat.le_refl _) hQ)
theorem w_X8_count_259 {Q : qQ} {I : qMI} {L : qML} {R : qMR} {a1 : Int32} (h1 : R 0 2 = some 21) {P : Int32 → qMI → qML → qMR → Prop} (hc : wkCi l G d n_X8_thingsSeen [.ref 0, .int (I 21 0)] I L R P) (kk : ∀ y I' L' R', P y I' L' R' → wkB l G (d + 1) n_X8_count Q 270 [.ref 0, .int a1] [.int y] I' L' R') : wkB l G (d + 1) n_X8_count Q 259 [.ref 0, .int a1] [] I L R :=
  bb_aload_n (n := 0) (i := 0) (zd (i := .aload_n 0) (n := 1) (by decide +kernel)) rfl rfl <|
  bb_aload_n (n := 0) (i := 0) (zd (i := .aload_n 0) (n := 1) (by decide +kernel)) rfl rfl <|
  bb_getr (k := 0) (ci := 8) (j := 2) (idx := 26) (a := 21) (zd (i := .getfield 26) (n := 3) (by decide +kernel)) (by decide +kernel) (by decide +kernel) (by decide +kernel) (by decide +kernel) rfl g454 h1 <|
  bb_geti (k := 21) (ci := 4) (j := 0) (idx := 140) (zd (i := .getfield 140) (n := 3) (by decide +kernel)) (by decide +kernel) (by decide +kernel) (by decide +kernel) (by decide +kernel) rfl g368 <|
  bb_callV (idx := 294) (k := 0) (ci := 8) (N := n_X8_thingsSeen) (As := [.int (I 21 0)]) (st := []) (zd (i := .invokevirtual 294) (n := 3) (by decide +kernel)) to_X8_thingsSeen g1006 g1008 g36 (Nat.le_of_ble_eq_true rfl) (by decide +kernel) (by decide +kernel) (by decide +kernel) rfl rfl rfl hc (fun r I' L' R' hq => by obtain ⟨y, rfl, hp⟩ := hq; exact kk y I' L' R' hp)
theorem w_X8_count_270 {Q : qQ} {I : qMI} {L : qML} {R : qMR} {a1 : Int32} {s0 : Int32} (hQ : Q (some (.int s0)) 336 I L R) : wkB l G (d + 1) n_X8_count Q 270 [.ref 0, .int a1] [.int s0] I L R :=
  (fun lv hl => q_iret (zd (i := .ireturn) (n := 1) (by decide +kernel)) rfl rfl (Nat.le_refl _) (Nat.le_refl _) hQ)
theorem w_X8_count_271 {Q : qQ} {I : qMI} {L : qML} {R : qMR} {a1 : Int32} (hQ : Q (some (.int (-1))) 336 I L R) : wkB l G (d + 1) n_X8_count Q 271 [.ref 0, .int a1] [] I L R :=
  bb_lift (fun _ => q_iconst (n := -1) (zd (i := .iconst (-1)) (n := 1) (by decide +kernel)) rfl) <|
  (fun lv hl => q_iret (zd (i := .ireturn) (n := 1) (by decide +kernel)) rfl rfl (Nat.le_refl _) (Nat.le_refl _) hQ)
theorem w_X8_sight_0 {Q : qQ} {I : qMI} {L : qML} {R : qMR} {a1 : Int32} {a2 : Int32} {a3 : Int32} {P : Int32 → qMI → qML → qMR → Prop} (hc : wkCi l G d n_X8_isX [.int a1] I L R P) (kk : ∀ y I' L' R', P y I' L' R' → wkB l G (d + 1) n_X8_sight Q 4 [.ref 0, .int a1, .int a2, .int a3, wkU, wkU] [.int y] I' L' R') : wkB l G (d + 1) n_X8_sight Q 0 [.ref 0, .int a1, .int a2, .int a3, wkU, wkU] [] I L R :=
  bb_iload_n (n := 1) (i := 1) (zd (i := .iload_n 1) (n := 1) (by decide +kernel)) rfl rfl <|
  bb_callS (idx := 175) (N := n_X8_isX) (As := [.int a1]) (st := []) (zd (i := .invokestatic 175) (n := 3) (by decide +kernel)) to_X8_isX g805 g806 (Nat.le_of_ble_eq_true rfl) rfl rfl hc (fun r I' L' R' hq => by obtain ⟨y, rfl, hp⟩ := hq; exact kk y I' L' R' hp)
theorem w_X8_sight_4 {Q : qQ} {I : qMI} {L : qML} {R : qMR} {a1 : Int32} {a2 : Int32} {a3 : Int32} {s0 : Int32} (kt : s0 = 0 → wkB l G (d + 1) n_X8_sight Q 22 [.ref 0, .int a1, .int a2, .int a3, wkU, wkU] [] I L R) (kf : ¬ s0 = 0 → wkB l G (d + 1) n_X8_sight Q 7 [.ref 0, .int a1, .int a2, .int a3, wkU, wkU] [] I L R) : wkB l G (d + 1) n_X8_sight Q 4 [.ref 0, .int a1, .int a2, .int a3, wkU, wkU] [.int s0] I L R :=
  (fun lv hl => q_if_eq (off := 18) (tgt := 22) (zd (i := .ifCond .eq (18)) (n := 3) (by decide +kernel)) (by decide) (fun h => (kt h) lv hl) (fun h => (kf h) lv hl))
theorem w_X8_sight_7 {Q : qQ} {I : qMI} {L : qML} {R : qMR} {a1 : Int32} {a2 : Int32} {a3 : Int32} {P : Int32 → qMI → qML → qMR → Prop} (hc : wkCi l G d n_X8_isThing [.ref 0, .int a2] I L R P) (kk : ∀ y I' L' R', P y I' L' R' → wkB l G (d + 1) n_X8_sight Q 12 [.ref 0, .int a1, .int a2, .int a3, wkU, wkU] [.int y] I' L' R') : wkB l G (d + 1) n_X8_sight Q 7 [.ref 0, .int a1, .int a2, .int a3, wkU, wkU] [] I L R :=
  bb_aload_n (n := 0) (i := 0) (zd (i := .aload_n 0) (n := 1) (by decide +kernel)) rfl rfl <|
  bb_iload_n (n := 2) (i := 2) (zd (i := .iload_n 2) (n := 1) (by decide +kernel)) rfl rfl <|
  bb_callV (idx := 115) (k := 0) (ci := 8) (N := n_X8_isThing) (As := [.int a2]) (st := []) (zd (i := .invokevirtual 115) (n := 3) (by decide +kernel)) to_X8_isThing g708 g710 g17 (Nat.le_of_ble_eq_true rfl) (by decide +kernel) (by decide +kernel) (by decide +kernel) rfl rfl rfl hc (fun r I' L' R' hq => by obtain ⟨y, rfl, hp⟩ := hq; exact kk y I' L' R' hp)
theorem w_X8_sight_12 {Q : qQ} {I : qMI} {L : qML} {R : qMR} {a1 : Int32} {a2 : Int32} {a3 : Int32} {s0 : Int32} (kt : s0 = 0 → wkB l G (d + 1) n_X8_sight Q 22 [.ref 0, .int a1, .int a2, .int a3, wkU, wkU] [] I L R) (kf : ¬ s0 = 0 → wkB l G (d + 1) n_X8_sight Q 15 [.ref 0, .int a1, .int a2, .int a3, wkU, wkU] [] I L R) : wkB l G (d + 1) n_X8_sight Q 12 [.ref 0, .int a1, .int a2, .int a3, wkU, wkU] [.int s0] I L R :=
  (fun lv hl => q_if_eq (off := 10) (tgt := 22) (zd (i := .ifCond .eq (10)) (n := 3) (by decide +kernel)) (by decide) (fun h => (kt h) lv hl) (fun h => (kf h) lv hl))
theorem w_X8_sight_15 {Q : qQ} {I : qMI} {L : qML} {R : qMR} {a1 : Int32} {a2 : Int32} {a3 : Int32} {P : Int32 → qMI → qML → qMR → Prop} (hc : wkCi l G d n_X8_isAhead [.int a3] I L R P) (kk : ∀ y I' L' R', P y I' L' R' → wkB l G (d + 1) n_X8_sight Q 19 [.ref 0, .int a1, .int a2, .int a3, wkU, wkU] [.int y] I' L' R') : wkB l G (d + 1) n_X8_sight Q 15 [.ref 0, .int a1, .int a2, .int a3, wkU, wkU] [] I L R :=
  bb_iload_n (n := 3) (i := 3) (zd (i := .iload_n 3) (n := 1) (by decide +kernel)) rfl rfl <|
  bb_callS (idx := 207) (N := n_X8_isAhead) (As := [.int a3]) (st := []) (zd (i := .invokestatic 207) (n := 3) (by decide +kernel)) to_X8_isAhead g862 g863 (Nat.le_of_ble_eq_true rfl) rfl rfl hc (fun r I' L' R' hq => by obtain ⟨y, rfl, hp⟩ := hq; exact kk y I' L' R' hp)
theorem w_X8_sight_19 {Q : qQ} {I : qMI} {L : qML} {R : qMR} {a1 : Int32} {a2 : Int32} {a3 : Int32} {s0 : Int32} (kt : ¬ s0 = 0 → wkB l G (d + 1) n_X8_sight Q 24 [.ref 0, .int a1, .int a2, .int a3, wkU, wkU] [] I L R) (kf : s0 = 0 → wkB l G (d + 1) n_X8_sight Q 22 [.ref 0, .int a1, .int a2, .int a3, wkU, wkU] [] I L R) : wkB l G (d + 1) n_X8_sight Q 19 [.ref 0, .int a1, .int a2, .int a3, wkU, wkU] [.int s0] I L R :=
  (fun lv hl => q_if_ne (off := 5) (tgt := 24) (zd (i := .ifCond .ne (5)) (n := 3) (by decide +kernel)) (by decide) (fun h => (kt h) lv hl) (fun h => (kf h) lv hl))
theorem w_X8_sight_22 {Q : qQ} {I : qMI} {L : qML} {R : qMR} {a1 : Int32} {a2 : Int32} {a3 : Int32} (hQ : Q (some (.int (-1))) 336 I L R) : wkB l G (d + 1) n_X8_sight Q 22 [.ref 0, .int a1, .int a2, .int a3, wkU, wkU] [] I L R :=
  bb_lift (fun _ => q_iconst (n := -1) (zd (i := .iconst (-1)) (n := 1) (by decide +kernel)) rfl) <|
  (fun lv hl => q_iret (zd (i := .ireturn) (n := 1) (by decide +kernel)) rfl rfl (Nat.le_refl _) (Nat.le_refl _) hQ)
theorem w_X8_sight_24 {Q : qQ} {I : qMI} {L : qML} {R : qMR} {o : Nat} (ho : o = 9 ∨ o = 259) {a1 : Int32} {a2 : Int32} {a3 : Int32} (h1 : R 0 2 = some 21) (h2 : R 0 12 = some o) (h3 : R 0 12 = some o) {P : Int32 → qMI → qML → qMR → Prop} (hc : wkCi l G d n_X0_heat [.ref o, .int ((I 21 0) + a3)] I L R P) (kk : ∀ y I' L' R', P y I' L' R' → wkB l G (d + 1) n_X8_sight Q 52 [.ref 0, .int a1, .int a2, .int a3, .int ((I 21 0) + a3), wkU] [.int y, .int ((I 21 0) + a3), .int a2, .int a1, .ref o] I' L' R') : wkB l G (d + 1) n_X8_sight Q 24 [.ref 0, .int a1, .int a2, .int a3, wkU, wkU] [] I L R :=
  bb_aload_n (n := 0) (i := 0) (zd (i := .aload_n 0) (n := 1) (by decide +kernel)) rfl rfl <|
  bb_getr (k := 0) (ci := 8) (j := 2) (idx := 26) (a := 21) (zd (i := .getfield 26) (n := 3) (by decide +kernel)) (by decide +kernel) (by decide +kernel) (by decide +kernel) (by decide +kernel) rfl g454 h1 <|
  bb_geti (k := 21) (ci := 4) (j := 0) (idx := 140) (zd (i := .getfield 140) (n := 3) (by decide +kernel)) (by decide +kernel) (by decide +kernel) (by decide +kernel) (by decide +kernel) rfl g368 <|
  bb_iload_n (n := 3) (i := 3) (zd (i := .iload_n 3) (n := 1) (by decide +kernel)) rfl rfl <|
  bb_lift (fun _ => q_iadd (zd (i := .iadd) (n := 1) (by decide +kernel))) <|
  bb_istore (i := 4) (zd (i := .istore 4) (n := 2) (by decide +kernel)) (by decide +kernel) (wkNl_i rfl) <|
  bb_aload_n (n := 0) (i := 0) (zd (i := .aload_n 0) (n := 1) (by decide +kernel)) rfl rfl <|
  bb_getr (k := 0) (ci := 8) (j := 12) (idx := 71) (a := o) (zd (i := .getfield 71) (n := 3) (by decide +kernel)) (by decide +kernel) (by decide +kernel) (by decide +kernel) (by decide +kernel) rfl g464 h2 <|
  bb_iload_n (n := 1) (i := 1) (zd (i := .iload_n 1) (n := 1) (by decide +kernel)) rfl rfl <|
  bb_iload_n (n := 2) (i := 2) (zd (i := .iload_n 2) (n := 1) (by decide +kernel)) rfl rfl <|
  bb_iload (i := 4) (zd (i := .iload 4) (n := 2) (by decide +kernel)) rfl <|
  bb_aload_n (n := 0) (i := 0) (zd (i := .aload_n 0) (n := 1) (by decide +kernel)) rfl rfl <|
  bb_getr (k := 0) (ci := 8) (j := 12) (idx := 71) (a := o) (zd (i := .getfield 71) (n := 3) (by decide +kernel)) (by decide +kernel) (by decide +kernel) (by decide +kernel) (by decide +kernel) rfl g464 h3 <|
  bb_iload (i := 4) (zd (i := .iload 4) (n := 2) (by decide +kernel)) rfl <|
  bb_callV (idx := 143) (k := o) (ci := 0) (N := n_X0_heat) (As := [.int ((I 21 0) + a3)]) (st := [.int ((I 21 0) + a3), .int a2, .int a1, .ref o]) (zd (i := .invokevirtual 143) (n := 3) (by decide +kernel)) to_X0_heat g716 g717 g718 (Nat.le_of_ble_eq_true rfl) (by rcases ho with rfl | rfl <;> decide +kernel) (by rcases ho with rfl | rfl <;> decide +kernel) (by decide +kernel) rfl rfl rfl hc (fun r I' L' R' hq => by obtain ⟨y, rfl, hp⟩ := hq; exact kk y I' L' R' hp)
theorem w_X8_sight_52 {Q : qQ} {I : qMI} {L : qML} {R : qMR} {o : Nat} (ho : o = 9 ∨ o = 259) {a1 : Int32} {a2 : Int32} {a3 : Int32} {a4 : Int32} {s1 : Int32} {s2 : Int32} {s3 : Int32} {s4 : Int32} {P : Int32 → qMI → qML → qMR → Prop} (hc : wkCi l G d n_X0_spotFrom [.ref o, .int s1, .int s2, .int s3, .int s4] I L R P) (kk : ∀ y I' L' R', P y I' L' R' → wkB l G (d + 1) n_X8_sight Q 55 [.ref 0, .int a1, .int a2, .int a3, .int a4, wkU] [.int y] I' L' R') : wkB l G (d + 1) n_X8_sight Q 52 [.ref 0, .int a1, .int a2, .int a3, .int a4, wkU] [.int s4, .int s3, .int s2, .int s1, .ref o] I L R :=
  bb_callV (idx := 224) (k := o) (ci := 0) (N := n_X0_spotFrom) (As := [.int s1, .int s2, .int s3, .int s4]) (st := []) (zd (i := .invokevirtual 224) (n := 3) (by decide +kernel)) to_X0_spotFrom g901 g902 g903 (Nat.le_of_ble_eq_true rfl) (by rcases ho with rfl | rfl <;> decide +kernel) (by rcases ho with rfl | rfl <;> decide +kernel) (by decide +kernel) rfl rfl rfl hc (fun r I' L' R' hq => by obtain ⟨y, rfl, hp⟩ := hq; exact kk y I' L' R' hp)
theorem w_X8_sight_55 {Q : qQ} {I : qMI} {L : qML} {R : qMR} {a1 : Int32} {a2 : Int32} {a3 : Int32} {a4 : Int32} {s0 : Int32} (kt : ¬ s0 = (-1) → wkB l G (d + 1) n_X8_sight Q 68 [.ref 0, .int a1, .int a2, .int a3, .int a4, .int s0] [] I L R) (kf : s0 = (-1) → wkB l G (d + 1) n_X8_sight Q 63 [.ref 0, .int a1, .int a2, .int a3, .int a4, .int s0] [] I L R) : wkB l G (d + 1) n_X8_sight Q 55 [.ref 0, .int a1, .int a2, .int a3, .int a4, wkU] [.int s0] I L R :=
  bb_istore (i := 5) (zd (i := .istore 5) (n := 2) (by decide +kernel)) (by decide +kernel) (wkNl_i rfl) <|
  bb_iload (i := 5) (zd (i := .iload 5) (n := 2) (by decide +kernel)) rfl <|
  bb_lift (fun _ => q_iconst (n := -1) (zd (i := .iconst (-1)) (n := 1) (by decide +kernel)) rfl) <|
  (fun lv hl => q_icmp_ne (off := 8) (tgt := 68) (zd (i := .if_icmp .ne (8)) (n := 3) (by decide +kernel)) (by decide) (fun h => (kt h) lv hl) (fun h => (kf h) lv hl))
theorem w_X8_sight_63 {Q : qQ} {I : qMI} {L : qML} {R : qMR} {a1 : Int32} {a2 : Int32} {a3 : Int32} {a4 : Int32} {a5 : Int32} (k : wkB l G (d + 1) n_X8_sight Q 70 [.ref 0, .int a1, .int a2, .int a3, .int a4, .int a5] [.int (-2)] I L R) : wkB l G (d + 1) n_X8_sight Q 63 [.ref 0, .int a1, .int a2, .int a3, .int a4, .int a5] [] I L R :=
  bb_lift (fun _ => q_bipush (n := -2) (zd (i := .bipush (-2)) (n := 2) (by decide +kernel)) rfl) <|
  bb_lift (fun _ => q_goto (off := 5) (tgt := 70) (zd (i := .goto (5)) (n := 3) (by decide +kernel)) (by decide)) k
theorem w_X8_sight_68 {Q : qQ} {I : qMI} {L : qML} {R : qMR} {a1 : Int32} {a2 : Int32} {a3 : Int32} {a4 : Int32} {a5 : Int32} (k : wkB l G (d + 1) n_X8_sight Q 70 [.ref 0, .int a1, .int a2, .int a3, .int a4, .int a5] [.int a5] I L R) : wkB l G (d + 1) n_X8_sight Q 68 [.ref 0, .int a1, .int a2, .int a3, .int a4, .int a5] [] I L R :=
  bb_iload (i := 5) (zd (i := .iload 5) (n := 2) (by decide +kernel)) rfl <|
  k
theorem w_X8_sight_70 {Q : qQ} {I : qMI} {L : qML} {R : qMR} {a1 : Int32} {a2 : Int32} {a3 : Int32} {a4 : Int32} {a5 : Int32} {s0 : Int32} (hQ : Q (some (.int s0)) 336 I L R) : wkB l G (d + 1) n_X8_sight Q 70 [.ref 0, .int a1, .int a2, .int a3, .int a4, .int a5] [.int s0] I L R :=
  (fun lv hl => q_iret (zd (i := .ireturn) (n := 1) (by decide +kernel)) rfl rfl (Nat.le_refl _) (Nat.le_refl _) hQ)
end
