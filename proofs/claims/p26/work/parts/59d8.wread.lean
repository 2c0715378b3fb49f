section
variable {l : Launch} {G : qG} {d : Nat}
def n_X8_read : qMn := (yX8_read, cX8_read, 2, (some Jvm.ClassFile.FieldType.int), 0, 0)
theorem to_X8_read : qTo n_X8_read 0 := ⟨g518, g97, ⟨by decide, by decide, by decide +kernel⟩, by decide⟩
theorem w_X5_drop_0 {Q : qQ} {I : qMI} {L : qML} {R : qMR} {a1 : Int32} (kt : a1 < 0 → wkB l G (d + 1) n_X5_drop Q 12 [.ref 1, .int a1] [] I L R) (kf : ¬ a1 < 0 → wkB l G (d + 1) n_X5_drop Q 4 [.ref 1, .int a1] [] I L R) : wkB l G (d + 1) n_X5_drop Q 0 [.ref 1, .int a1] [] I L R :=
  bb_iload_n (n := 1) (i := 1) (zd (i := .iload_n 1) (n := 1) (by decide +kernel)) rfl rfl <|
  (fun lv hl => q_if_lt (off := 11) (tgt := 12) (zd (i := .ifCond .lt (11)) (n := 3) (by decide +kernel)) (by decide) (fun h => (kt h) lv hl) (fun h => (kf h) lv hl))
theorem w_X5_drop_4 {Q : qQ} {I : qMI} {L : qML} {R : qMR} {a1 : Int32} (kt : a1 ≤ (I 1 1) → wkB l G (d + 1) n_X5_drop Q 14 [.ref 1, .int a1] [] I L R) (kf : ¬ a1 ≤ (I 1 1) → wkB l G (d + 1) n_X5_drop Q 12 [.ref 1, .int a1] [] I L R) : wkB l G (d + 1) n_X5_drop Q 4 [.ref 1, .int a1] [] I L R :=
  bb_iload_n (n := 1) (i := 1) (zd (i := .iload_n 1) (n := 1) (by decide +kernel)) rfl rfl <|
  bb_aload_n (n := 0) (i := 0) (zd (i := .aload_n 0) (n := 1) (by decide +kernel)) rfl rfl <|
  bb_geti (k := 1) (ci := 5) (j := 1) (idx := 15) (zd (i := .getfield 15) (n := 3) (by decide +kernel)) (by decide +kernel) (by decide +kernel) (by decide +kernel) (by decide +kernel) rfl g130 <|
  (fun lv hl => q_icmp_le (off := 5) (tgt := 14) (zd (i := .if_icmp .le (5)) (n := 3) (by decide +kernel)) (by decide) (fun h => (kt h) lv hl) (fun h => (kf h) lv hl))
theorem w_X5_drop_12 {Q : qQ} {I : qMI} {L : qML} {R : qMR} {a1 : Int32} (hQ : Q (some (.int 0)) 336 I L R) : wkB l G (d + 1) n_X5_drop Q 12 [.ref 1, .int a1] [] I L R :=
  bb_lift (fun _ => q_iconst (n := 0) (zd (i := .iconst (0)) (n := 1) (by decide +kernel)) rfl) <|
  (fun lv hl => q_iret (zd (i := .ireturn) (n := 1) (by decide +kernel)) rfl rfl (Nat.le_refl _) (Nat.le_refl _) hQ)
theorem w_X5_drop_14 {Q : qQ} {I : qMI} {L : qML} {R : qMR} {a1 : Int32} (hQ : Q (some (.int 1)) 336 (qUp I 1 1 ((I 1 1) - a1)) L R) : wkB l G (d + 1) n_X5_drop Q 14 [.ref 1, .int a1] [] I L R :=
  bb_aload_n (n := 0) (i := 0) (zd (i := .aload_n 0) (n := 1) (by decide +kernel)) rfl rfl <|
  bb_lift (fun _ => q_dup (zd (i := .dup) (n := 1) (by decide +kernel)) rfl) <|
  bb_geti (k := 1) (ci := 5) (j := 1) (idx := 15) (zd (i := .getfield 15) (n := 3) (by decide +kernel)) (by decide +kernel) (by decide +kernel) (by decide +kernel) (by decide +kernel) rfl g130 <|
  bb_iload_n (n := 1) (i := 1) (zd (i := .iload_n 1) (n := 1) (by decide +kernel)) rfl rfl <|
  bb_lift (fun _ => q_isub (zd (i := .isub) (n := 1) (by decide +kernel))) <|
  bb_puti (k := 1) (ci := 5) (j := 1) (idx := 15) (zd (i := .putfield 15) (n := 3) (by decide +kernel)) (by decide +kernel) (by decide +kernel) (by decide +kernel) (by decide +kernel) g130 rfl rfl <|
  bb_lift (fun _ => q_iconst (n := 1) (zd (i := .iconst (1)) (n := 1) (by decide +kernel)) rfl) <|
  (fun lv hl => q_iret (zd (i := .ireturn) (n := 1) (by decide +kernel)) rfl rfl (Nat.le_refl _) (Nat.le_refl _) hQ)
variable {I : qMI} {L : qML} {R : qMR}
theorem cDrop {x : Int32} : wkCi l G (d + 1) n_X5_drop [.ref 1, .int x] I L R (fun y I' L' R' => R' = R ∧ L' = L ∧ ((y = 1 ∧ (0 ≤ x.toInt ∧ x.toInt ≤ (I 1 1).toInt) ∧ I' = qUp I 1 1 (I 1 1 - x)) ∨ (y = 0 ∧ ¬ (0 ≤ x.toInt ∧ x.toInt ≤ (I 1 1).toInt) ∧ I' = I))) := by
  refine wkC_of 0 (by decide) (Nat.le_of_ble_eq_true rfl) (w_X5_drop_0 (fun q => ?_) (fun q => ?_))
  · have q := i_lt.mp q
    rw [show (0 : Int32).toInt = 0 from rfl] at q
    exact w_X5_drop_12 ⟨rfl, _, rfl, rfl, rfl, Or.inr ⟨rfl, by omega, rfl⟩⟩
  · have q : ¬ _ := fun z => q (i_lt.mpr z)
    rw [show (0 : Int32).toInt = 0 from rfl] at q
    refine w_X5_drop_4 (fun q2 => ?_) (fun q2 => ?_)
    · exact w_X5_drop_14 ⟨rfl, _, rfl, rfl, rfl, Or.inl ⟨rfl, ⟨by omega, i_le.mp q2⟩, rfl⟩⟩
    · have q2 : ¬ _ := fun z => q2 (i_le.mpr z)
      exact w_X5_drop_12 ⟨rfl, _, rfl, rfl, rfl, Or.inr ⟨rfl, by omega, rfl⟩⟩

theorem w_X8_read_0 {Q : qQ} {I : qMI} {L : qML} {R : qMR}  (h1 : R 0 1 = some 3) (h2 : R 0 0 = some 1) {P : Int32 → qMI → qML → qMR → Prop} (hc : wkCi l G d n_X1_parse [.ref 3, .ref 1] I L R P) (kk : ∀ y I' L' R', P y I' L' R' → wkB l G (d + 1) n_X8_read Q 11 [.ref 0, wkU] [.int y] I' L' R') : wkB l G (d + 1) n_X8_read Q 0 [.ref 0, wkU] [] I L R :=
  bb_aload_n (n := 0) (i := 0) (zd (i := .aload_n 0) (n := 1) (by decide +kernel)) rfl rfl <|
  bb_getr (k := 0) (ci := 8) (j := 1) (idx := 19) (a := 3) (zd (i := .getfield 19) (n := 3) (by decide +kernel)) (by decide +kernel) (by decide +kernel) (by decide +kernel) (by decide +kernel) rfl g453 h1 <|
  bb_aload_n (n := 0) (i := 0) (zd (i := .aload_n 0) (n := 1) (by decide +kernel)) rfl rfl <|
  bb_getr (k := 0) (ci := 8) (j := 0) (idx := 12) (a := 1) (zd (i := .getfield 12) (n := 3) (by decide +kernel)) (by decide +kernel) (by decide +kernel) (by decide +kernel) (by decide +kernel) rfl g452 h2 <|
  bb_callV (idx := 93) (k := 3) (ci := 1) (N := n_X1_parse) (As := [.ref 1]) (st := []) (zd (i := .invokevirtual 93) (n := 3) (by decide +kernel)) to_X1_parse g519 g520 g521 (Nat.le_of_ble_eq_true rfl) (by decide +kernel) (by decide +kernel) (by decide +kernel) rfl rfl rfl hc (fun r I' L' R' hq => by obtain ⟨y, rfl, hp⟩ := hq; exact kk y I' L' R' hp)
theorem w_X8_read_11 {Q : qQ} {I : qMI} {L : qML} {R : qMR} {s0 : Int32} (h1 : R 0 1 = some 3) (h2 : R 0 0 = some 1) (h3 : R 0 0 = some 1) {P : Int32 → qMI → qML → qMR → Prop} (hc : wkCi l G d n_X5_drop [.ref 1, .int ((qUp I 0 13 (I 3 5)) 1 1)] (qUp I 0 13 (I 3 5)) L R P) (kk : ∀ y I' L' R', P y I' L' R' → wkB l G (d + 1) n_X8_read Q 37 [.ref 0, .int s0] [.int y] I' L' R') : wkB l G (d + 1) n_X8_read Q 11 [.ref 0, wkU] [.int s0] I L R :=
  bb_istore_n (n := 1) (i := 1) (zd (i := .istore_n 1) (n := 1) (by decide +kernel)) rfl (by decide +kernel) (wkNl_r rfl) <|
  bb_aload_n (n := 0) (i := 0) (zd (i := .aload_n 0) (n := 1) (by decide +kernel)) rfl rfl <|
  bb_aload_n (n := 0) (i := 0) (zd (i := .aload_n 0) (n := 1) (by decide +kernel)) rfl rfl <|
  bb_getr (k := 0) (ci := 8) (j := 1) (idx := 19) (a := 3) (zd (i := .getfield 19) (n := 3) (by decide +kernel)) (by decide +kernel) (by decide +kernel) (by decide +kernel) (by decide +kernel) rfl g453 h1 <|
  bb_geti (k := 3) (ci := 1) (j := 5) (idx := 97) (zd (i := .getfield 97) (n := 3) (by decide +kernel)) (by decide +kernel) (by decide +kernel) (by decide +kernel) (by decide +kernel) rfl g341 <|
  bb_puti (k := 0) (ci := 8) (j := 13) (idx := 75) (zd (i := .putfield 75) (n := 3) (by decide +kernel)) (by decide +kernel) (by decide +kernel) (by decide +kernel) (by decide +kernel) g465 rfl rfl <|
  bb_aload_n (n := 0) (i := 0) (zd (i := .aload_n 0) (n := 1) (by decide +kernel)) rfl rfl <|
  bb_getr (k := 0) (ci := 8) (j := 0) (idx := 12) (a := 1) (zd (i := .getfield 12) (n := 3) (by decide +kernel)) (by decide +kernel) (by decide +kernel) (by decide +kernel) (by decide +kernel) rfl g452 h2 <|
  bb_aload_n (n := 0) (i := 0) (zd (i := .aload_n 0) (n := 1) (by decide +kernel)) rfl rfl <|
  bb_getr (k := 0) (ci := 8) (j := 0) (idx := 12) (a := 1) (zd (i := .getfield 12) (n := 3) (by decide +kernel)) (by decide +kernel) (by decide +kernel) (by decide +kernel) (by decide +kernel) rfl g452 h3 <|
  bb_geti (k := 1) (ci := 5) (j := 1) (idx := 87) (zd (i := .getfield 87) (n := 3) (by decide +kernel)) (by decide +kernel) (by decide +kernel) (by decide +kernel) (by decide +kernel) rfl g131 <|
  bb_callV (idx := 90) (k := 1) (ci := 5) (N := n_X5_drop) (As := [.int ((qUp I 0 13 (I 3 5)) 1 1)]) (st := []) (zd (i := .invokevirtual 90) (n := 3) (by decide +kernel)) to_X5_drop g511 g512 g513 (Nat.le_of_ble_eq_true rfl) (by decide +kernel) (by decide +kernel) (by decide +kernel) rfl rfl rfl hc (fun r I' L' R' hq => by obtain ⟨y, rfl, hp⟩ := hq; exact kk y I' L' R' hp)
theorem w_X8_read_37 {Q : qQ} {I : qMI} {L : qML} {R : qMR} {a1 : Int32} {s0 : Int32} (kt : ¬ a1 = 0 → wkB l G (d + 1) n_X8_read Q 61 [.ref 0, .int a1] [] I L R) (kf : a1 = 0 → wkB l G (d + 1) n_X8_read Q 42 [.ref 0, .int a1] [] I L R) : wkB l G (d + 1) n_X8_read Q 37 [.ref 0, .int a1] [.int s0] I L R :=
  bb_lift (fun _ => q_pop (zd (i := .pop) (n := 1) (by decide +kernel)) rfl) <|
  bb_iload_n (n := 1) (i := 1) (zd (i := .iload_n 1) (n := 1) (by decide +kernel)) rfl rfl <|
  (fun lv hl => q_if_ne (off := 22) (tgt := 61) (zd (i := .ifCond .ne (22)) (n := 3) (by decide +kernel)) (by decide) (fun h => (kt h) lv hl) (fun h => (kf h) lv hl))
theorem w_X8_read_61 {Q : qQ} {I : qMI} {L : qML} {R : qMR} {a1 : Int32} (hQ : Q (some (.int a1)) 336 I L R) : wkB l G (d + 1) n_X8_read Q 61 [.ref 0, .int a1] [] I L R :=
  bb_iload_n (n := 1) (i := 1) (zd (i := .iload_n 1) (n := 1) (by decide +kernel)) rfl rfl <|
  (fun lv hl => q_iret (zd (i := .ireturn) (n := 1) (by decide +kernel)) rfl rfl (Nat.le_refl _) (Nat.le_refl _) hQ)
end
