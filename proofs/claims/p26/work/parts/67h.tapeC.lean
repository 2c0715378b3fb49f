/-! ===== the tapes' bytes ===== -/
def tB (x n : Int32) : Int32 := vp_nar .byte ((x >>> (n &&& 31)).toInt8.toInt32)
def tP (x : Int32) (c : Nat → Int32) (s : Nat) : Nat → Int32 := tU (tU (tU (tU c s (tB x 24)) (s + 1) (tB x (24 + -8))) (s + 2) (tB x (24 + -8 + -8))) (s + 3) (tB x (24 + -8 + -8 + -8))
def tF (x1 x2 x3 x4 x5 : Int32) (c : Nat → Int32) (s : Nat) : Nat → Int32 := tP x5 (tP x4 (tP x3 (tP x2 (tP x1 c s) (s + 4)) (s + 8)) (s + 12)) (s + 16)
section
variable {l : Launch} {G : qG} {d : Nat} {I : qMI} {L : qML} {R : qMR}
theorem ePut (hR : wkR R) {x : Int32} (h0 : 0 ≤ (I 292 2).toInt) (h1 : (I 292 2).toInt ≤ 1996) : wkV l G (d + 1) n_X9_put [.ref 292, .int x] I L R (fun I' L' => L' = L ∧ yTp I I' ∧ (I' 292 2).toInt = (I 292 2).toInt + 4 ∧ I' 293 = tP x (I 293) (I 292 2).toInt.toNat) := by
  have step : ∀ (J : qMI) (n : Int32), ¬ n < 0 → 0 ≤ (J 292 2).toInt → (J 292 2).toInt < 2000 → (∀ J2 : qMI, yTp J J2 → (J2 292 2).toInt = (J 292 2).toInt + 1 → J2 293 = tU (J 293) (J 292 2).toInt.toNat (tB x n) → wkB l G (d + 1) n_X9_put (wkPV R (fun I' L' => L' = L ∧ yTp I I' ∧ (I' 292 2).toInt = (I 292 2).toInt + 4 ∧ I' 293 = tP x (I 293) (I 292 2).toInt.toNat)) 3 [.ref 292, .int x, .int (n + (-8))] [] J2 L R) → wkB l G (d + 1) n_X9_put (wkPV R (fun I' L' => L' = L ∧ yTp I I' ∧ (I' 292 2).toInt = (I 292 2).toInt + 4 ∧ I' 293 = tP x (I 293) (I 292 2).toInt.toNat)) 3 [.ref 292, .int x, .int n] [] J L R := fun J n hn j0 j1 k => w_X9_put_3 (fun q => absurd q hn) (fun _ => w_X9_put_7 hR (vin j0 (by omega)) (k _ (yTp_tr (yTp_up (Or.inl rfl)) (yTp_up (Or.inr ⟨rfl, rfl⟩))) (by rw [qUp_at, if_pos ⟨rfl, rfl⟩, qUp_ne (by omega), i_s (by omega)]) (by rw [qUp_ro (by decide), qUp_row, tcn]; rfl)))
  refine wkC_of 1 (by decide) (Nat.le_of_ble_eq_true rfl) (w_X9_put_0 ?_)
  refine step I 24 (by decide) h0 (by omega) fun J1 t1 e1 u1 => step J1 _ (by decide) (by omega) (by omega) fun J2 t2 e2 u2 => step J2 _ (by decide) (by omega) (by omega) fun J3 t3 e3 u3 => step J3 _ (by decide) (by omega) (by omega) fun J4 t4 e4 u4 => w_X9_put_3 (fun _ => w_X9_put_36 ⟨rfl, rfl, rfl, rfl, yTp_tr t1 (yTp_tr t2 (yTp_tr t3 t4)), by omega, ?_⟩) (fun q => absurd (by decide) q)
  rw [u4, u3, u2, u1, show (J1 292 2).toInt.toNat = (I 292 2).toInt.toNat + 1 by omega, show (J2 292 2).toInt.toNat = (I 292 2).toInt.toNat + 2 by omega, show (J3 292 2).toInt.toNat = (I 292 2).toInt.toNat + 3 by omega]
  rfl
theorem eFeed (hR : wkR R) {x1 x2 x3 x4 x5 : Int32} (h0 : 0 ≤ (I 292 2).toInt) (h1 : (I 292 2).toInt ≤ 2000) : wkI l G (d + 2) n_X9_feed [.ref 292, .int x1, .int x2, .int x3, .int x4, .int x5] I L R (fun y I' L' => L' = L ∧ yTp I I' ∧ (((I 292 2).toInt ≤ 1980 ∧ (I' 292 2).toInt = (I 292 2).toInt + 20 ∧ y = I' 292 2 ∧ I' 293 = tF x1 x2 x3 x4 x5 (I 293) (I 292 2).toInt.toNat) ∨ (1980 < (I 292 2).toInt ∧ I' = I ∧ y = -1))) := by
  have e20 : (I 292 2 + 20).toInt = (I 292 2).toInt + 20 := i_add (y := 20) (by rw [show (20 : Int32).toInt = 20 from rfl]; omega) (by rw [show (20 : Int32).toInt = 20 from rfl]; omega)
  refine wkC_of 0 (by decide) (Nat.le_of_ble_eq_true rfl) (w_X9_feed_0 (fun q => ?_) (fun q => ?_))
  · have q := i_le.mp q
    rw [e20, show (2000 : Int32).toInt = 2000 from rfl] at q
    refine w_X9_feed_15 (ePut (d := d) hR h0 (by omega)) (fun J1 L1 hq => ?_)
    obtain ⟨rfl, t1, e1, u1⟩ := hq
    refine w_X9_feed_20 (ePut (d := d) hR (by omega) (by omega)) (fun J2 L2 hq => ?_)
    obtain ⟨rfl, t2, e2, u2⟩ := hq
    refine w_X9_feed_25 (ePut (d := d) hR (by omega) (by omega)) (fun J3 L3 hq => ?_)
    obtain ⟨rfl, t3, e3, u3⟩ := hq
    refine w_X9_feed_30 (ePut (d := d) hR (by omega) (by omega)) (fun J4 L4 hq => ?_)
    obtain ⟨rfl, t4, e4, u4⟩ := hq
    refine w_X9_feed_36 (ePut (d := d) hR (by omega) (by omega)) (fun J5 L5 hq => ?_)
    obtain ⟨rfl, t5, e5, u5⟩ := hq
    refine w_X9_feed_42 ⟨rfl, rfl, _, rfl, rfl, yTp_tr t1 (yTp_tr t2 (yTp_tr t3 (yTp_tr t4 t5))), Or.inl ⟨by omega, by omega, rfl, ?_⟩⟩
    rw [u5, u4, u3, u2, u1, show (J1 292 2).toInt.toNat = (I 292 2).toInt.toNat + 4 by omega, show (J2 292 2).toInt.toNat = (I 292 2).toInt.toNat + 8 by omega, show (J3 292 2).toInt.toNat = (I 292 2).toInt.toNat + 12 by omega, show (J4 292 2).toInt.toNat = (I 292 2).toInt.toNat + 16 by omega]
    rfl
  · have q : ¬ _ := fun z => q (i_le.mpr z)
    rw [e20, show (2000 : Int32).toInt = 2000 from rfl] at q
    exact w_X9_feed_13 ⟨rfl, rfl, _, rfl, rfl, yTp_rf I, Or.inr ⟨by omega, rfl, rfl⟩⟩
theorem eBack {x : Int32} (h0 : 0 ≤ (I 292 2).toInt) (h1 : (I 292 2).toInt ≤ 2000) : wkI l G (d + 1) n_X9_back [.ref 292, .int x] I L R (fun y I' L' => L' = L ∧ yTp I I' ∧ I' 293 = I 293 ∧ (((0 ≤ x.toInt ∧ x.toInt ≤ (I 292 2).toInt) ∧ (I' 292 2).toInt = (I 292 2).toInt - x.toInt ∧ y = I' 292 2) ∨ (¬ (0 ≤ x.toInt ∧ x.toInt ≤ (I 292 2).toInt) ∧ I' = I ∧ y = -1))) := by
  refine wkC_of 0 (by decide) (Nat.le_of_ble_eq_true rfl) (w_X9_back_0 (fun q => ?_) (fun q => ?_))
  · have q := i_lt.mp q
    rw [show (0 : Int32).toInt = 0 from rfl] at q
    exact w_X9_back_12 ⟨rfl, rfl, _, rfl, rfl, yTp_rf I, rfl, Or.inr ⟨by omega, rfl, rfl⟩⟩
  · have q : ¬ _ := fun z => q (i_lt.mpr z)
    rw [show (0 : Int32).toInt = 0 from rfl] at q
    refine w_X9_back_4 (fun z => ?_) (fun z => ?_)
    · have z := i_le.mp z
      exact w_X9_back_14 ⟨rfl, rfl, _, rfl, rfl, yTp_up (Or.inr ⟨rfl, rfl⟩), qUp_ro (by decide), Or.inl ⟨by omega, by rw [qUp_at, if_pos ⟨rfl, rfl⟩, i_sub (by omega) (by omega)], rfl⟩⟩
    · have z : ¬ _ := fun w => z (i_le.mpr w)
      exact w_X9_back_12 ⟨rfl, rfl, _, rfl, rfl, yTp_rf I, rfl, Or.inr ⟨by omega, rfl, rfl⟩⟩
end
section
variable {l : Launch} {G : qG} {d : Nat}
theorem w_X5_putWord_0 {Q : qQ} {I : qMI} {L : qML} {R : qMR} {a1 : Int32} (k : wkB l G (d + 1) n_X5_putWord Q 3 [.ref 1, .int a1, .int 24] [] I L R) : wkB l G (d + 1) n_X5_putWord Q 0 [.ref 1, .int a1, wkU] [] I L R :=
  bb_lift (fun _ => q_bipush (n := 24) (zd (i := .bipush (24)) (n := 2) (by decide +kernel)) rfl) <|
  bb_istore_n (n := 2) (i := 2) (zd (i := .istore_n 2) (n := 1) (by decide +kernel)) rfl (by decide +kernel) (wkNl_i rfl) <|
  k
theorem w_X5_putWord_3 {Q : qQ} {I : qMI} {L : qML} {R : qMR} {a1 : Int32} {a2 : Int32} (kt : a2 < 0 → wkB l G (d + 1) n_X5_putWord Q 46 [.ref 1, .int a1, .int a2] [] I L R) (kf : ¬ a2 < 0 → wkB l G (d + 1) n_X5_putWord Q 7 [.ref 1, .int a1, .int a2] [] I L R) : wkB l G (d + 1) n_X5_putWord Q 3 [.ref 1, .int a1, .int a2] [] I L R :=
  bb_iload_n (n := 2) (i := 2) (zd (i := .iload_n 2) (n := 1) (by decide +kernel)) rfl rfl <|
  (fun lv hl => q_if_lt (off := 42) (tgt := 46) (zd (i := .ifCond .lt (42)) (n := 3) (by decide +kernel)) (by decide) (fun h => (kt h) lv hl) (fun h => (kf h) lv hl))
theorem w_X5_putWord_7 {Q : qQ} {I : qMI} {L : qML} {R : qMR} {a1 : Int32} {a2 : Int32} (kt : 2000 ≤ (I 1 1) → wkB l G (d + 1) n_X5_putWord Q 46 [.ref 1, .int a1, .int a2] [] I L R) (kf : ¬ 2000 ≤ (I 1 1) → wkB l G (d + 1) n_X5_putWord Q 17 [.ref 1, .int a1, .int a2] [] I L R) : wkB l G (d + 1) n_X5_putWord Q 7 [.ref 1, .int a1, .int a2] [] I L R :=
  bb_aload_n (n := 0) (i := 0) (zd (i := .aload_n 0) (n := 1) (by decide +kernel)) rfl rfl <|
  bb_geti (k := 1) (ci := 5) (j := 1) (idx := 15) (zd (i := .getfield 15) (n := 3) (by decide +kernel)) (by decide +kernel) (by decide +kernel) (by decide +kernel) (by decide +kernel) rfl g130 <|
  bb_lift (fun _ => q_sipush (n := 2000) (zd (i := .sipush (2000)) (n := 3) (by decide +kernel)) rfl) <|
  (fun lv hl => q_icmp_ge (off := 32) (tgt := 46) (zd (i := .if_icmp .ge (32)) (n := 3) (by decide +kernel)) (by decide) (fun h => (kt h) lv hl) (fun h => (kf h) lv hl))
theorem w_X5_putWord_17 {Q : qQ} {I : qMI} {L : qML} {R : qMR} {a1 : Int32} {a2 : Int32} (h1 : R 1 0 = some 2) (h2 : vp_in (I 1 1) 2000) (k : wkB l G (d + 1) n_X5_putWord Q 3 [.ref 1, .int a1, .int (a2 + (-8))] [] (qUp (qUp I 2 (I 1 1).toNatClampNeg (vp_nar .byte ((a1 >>> (a2 &&& 31)).toInt8.toInt32))) 1 1 (((qUp I 2 (I 1 1).toNatClampNeg (vp_nar .byte ((a1 >>> (a2 &&& 31)).toInt8.toInt32))) 1 1) + 1)) L R) : wkB l G (d + 1) n_X5_putWord Q 17 [.ref 1, .int a1, .int a2] [] I L R :=
  bb_aload_n (n := 0) (i := 0) (zd (i := .aload_n 0) (n := 1) (by decide +kernel)) rfl rfl <|
  bb_getr (k := 1) (ci := 5) (j := 0) (idx := 11) (a := 2) (zd (i := .getfield 11) (n := 3) (by decide +kernel)) (by decide +kernel) (by decide +kernel) (by decide +kernel) (by decide +kernel) rfl g129 h1 <|
  bb_aload_n (n := 0) (i := 0) (zd (i := .aload_n 0) (n := 1) (by decide +kernel)) rfl rfl <|
  bb_geti (k := 1) (ci := 5) (j := 1) (idx := 15) (zd (i := .getfield 15) (n := 3) (by decide +kernel)) (by decide +kernel) (by decide +kernel) (by decide +kernel) (by decide +kernel) rfl g130 <|
  bb_iload_n (n := 1) (i := 1) (zd (i := .iload_n 1) (n := 1) (by decide +kernel)) rfl rfl <|
  bb_iload_n (n := 2) (i := 2) (zd (i := .iload_n 2) (n := 1) (by decide +kernel)) rfl rfl <|
  bb_lift (fun _ => q_ishr (zd (i := .ishr) (n := 1) (by decide +kernel))) <|
  bb_lift (fun _ => q_i2b (zd (i := .i2b) (n := 1) (by decide +kernel))) <|
  bb_lift (fun _ => q_bast (k := 2) (zd (i := .bastore) (n := 1) (by decide +kernel)) (by decide +kernel) (by decide +kernel) h2) <|
  bb_aload_n (n := 0) (i := 0) (zd (i := .aload_n 0) (n := 1) (by decide +kernel)) rfl rfl <|
  bb_lift (fun _ => q_dup (zd (i := .dup) (n := 1) (by decide +kernel)) rfl) <|
  bb_geti (k := 1) (ci := 5) (j := 1) (idx := 15) (zd (i := .getfield 15) (n := 3) (by decide +kernel)) (by decide +kernel) (by decide +kernel) (by decide +kernel) (by decide +kernel) rfl g130 <|
  bb_lift (fun _ => q_iconst (n := 1) (zd (i := .iconst (1)) (n := 1) (by decide +kernel)) rfl) <|
  bb_lift (fun _ => q_iadd (zd (i := .iadd) (n := 1) (by decide +kernel))) <|
  bb_puti (k := 1) (ci := 5) (j := 1) (idx := 15) (zd (i := .putfield 15) (n := 3) (by decide +kernel)) (by decide +kernel) (by decide +kernel) (by decide +kernel) (by decide +kernel) g130 rfl rfl <|
  bb_iinc (i := 2) (n := -8) (zd (i := .iinc 2 (-8)) (n := 3) (by decide +kernel)) rfl rfl (by decide +kernel) (wkNl_i rfl) <|
  bb_lift (fun _ => q_goto (off := -40) (tgt := 3) (zd (i := .goto (-40)) (n := 3) (by decide +kernel)) (by decide)) k
theorem w_X5_putWord_46 {Q : qQ} {I : qMI} {L : qML} {R : qMR} {a1 : Int32} {a2 : Int32} (hQ : Q none 336 I L R) : wkB l G (d + 1) n_X5_putWord Q 46 [.ref 1, .int a1, .int a2] [] I L R :=
  (fun lv hl => q_vret (zd (i := .return_) (n := 1) (by decide +kernel)) rfl (Nat.le_refl _) (Nat.le_refl _) hQ)
theorem w_X5_hasRoom_0 {Q : qQ} {I : qMI} {L : qML} {R : qMR} {a1 : Int32} (kt : 2000 < ((I 1 1) + a1) → wkB l G (d + 1) n_X5_hasRoom Q 16 [.ref 1, .int a1] [] I L R) (kf : ¬ 2000 < ((I 1 1) + a1) → wkB l G (d + 1) n_X5_hasRoom Q 12 [.ref 1, .int a1] [] I L R) : wkB l G (d + 1) n_X5_hasRoom Q 0 [.ref 1, .int a1] [] I L R :=
  bb_aload_n (n := 0) (i := 0) (zd (i := .aload_n 0) (n := 1) (by decide +kernel)) rfl rfl <|
  bb_geti (k := 1) (ci := 5) (j := 1) (idx := 15) (zd (i := .getfield 15) (n := 3) (by decide +kernel)) (by decide +kernel) (by decide +kernel) (by decide +kernel) (by decide +kernel) rfl g130 <|
  bb_iload_n (n := 1) (i := 1) (zd (i := .iload_n 1) (n := 1) (by decide +kernel)) rfl rfl <|
  bb_lift (fun _ => q_iadd (zd (i := .iadd) (n := 1) (by decide +kernel))) <|
  bb_lift (fun _ => q_sipush (n := 2000) (zd (i := .sipush (2000)) (n := 3) (by decide +kernel)) rfl) <|
  (fun lv hl => q_icmp_gt (off := 7) (tgt := 16) (zd (i := .if_icmp .gt (7)) (n := 3) (by decide +kernel)) (by decide) (fun h => (kt h) lv hl) (fun h => (kf h) lv hl))
theorem w_X5_hasRoom_12 {Q : qQ} {I : qMI} {L : qML} {R : qMR} {a1 : Int32} (k : wkB l G (d + 1) n_X5_hasRoom Q 17 [.ref 1, .int a1] [.int 1] I L R) : wkB l G (d + 1) n_X5_hasRoom Q 12 [.ref 1, .int a1] [] I L R :=
  bb_lift (fun _ => q_iconst (n := 1) (zd (i := .iconst (1)) (n := 1) (by decide +kernel)) rfl) <|
  bb_lift (fun _ => q_goto (off := 4) (tgt := 17) (zd (i := .goto (4)) (n := 3) (by decide +kernel)) (by decide)) k
theorem w_X5_hasRoom_16 {Q : qQ} {I : qMI} {L : qML} {R : qMR} {a1 : Int32} (k : wkB l G (d + 1) n_X5_hasRoom Q 17 [.ref 1, .int a1] [.int 0] I L R) : wkB l G (d + 1) n_X5_hasRoom Q 16 [.ref 1, .int a1] [] I L R :=
  bb_lift (fun _ => q_iconst (n := 0) (zd (i := .iconst (0)) (n := 1) (by decide +kernel)) rfl) <|
  k
theorem w_X5_hasRoom_17 {Q : qQ} {I : qMI} {L : qML} {R : qMR} {a1 : Int32} {s0 : Int32} (hQ : Q (some (.int s0)) 336 I L R) (h1 : s0 = 0 ∨ s0 = 1) : wkB l G (d + 1) n_X5_hasRoom Q 17 [.ref 1, .int a1] [.int s0] I L R :=
  (fun lv hl => q_iret (zd (i := .ireturn) (n := 1) (by decide +kernel)) rfl (by rcases h1 with e | e <;> rw [e] <;> rfl) (Nat.le_refl _) (Nat.le_refl _) hQ)
theorem w_X8_feed_0 {Q : qQ} {I : qMI} {L : qML} {R : qMR} {a1 : Int32} {a2 : Int32} {a3 : Int32} {a4 : Int32} {a5 : Int32} (h1 : R 0 0 = some 1) {P : Int32 → qMI → qML → qMR → Prop} (hc : wkCi l G d n_X5_hasRoom [.ref 1, .int 20] I L R P) (kk : ∀ y I' L' R', P y I' L' R' → wkB l G (d + 1) n_X8_feed Q 9 [.ref 0, .int a1, .int a2, .int a3, .int a4, .int a5] [.int y] I' L' R') : wkB l G (d + 1) n_X8_feed Q 0 [.ref 0, .int a1, .int a2, .int a3, .int a4, .int a5] [] I L R :=
  bb_aload_n (n := 0) (i := 0) (zd (i := .aload_n 0) (n := 1) (by decide +kernel)) rfl rfl <|
  bb_getr (k := 0) (ci := 8) (j := 0) (idx := 12) (a := 1) (zd (i := .getfield 12) (n := 3) (by decide +kernel)) (by decide +kernel) (by decide +kernel) (by decide +kernel) (by decide +kernel) rfl g452 h1 <|
  bb_lift (fun _ => q_bipush (n := 20) (zd (i := .bipush (20)) (n := 2) (by decide +kernel)) rfl) <|
  bb_callV (idx := 79) (k := 1) (ci := 5) (N := n_X5_hasRoom) (As := [.int 20]) (st := []) (zd (i := .invokevirtual 79) (n := 3) (by decide +kernel)) to_X5_hasRoom g499 g500 g501 (Nat.le_of_ble_eq_true rfl) (by decide +kernel) (by decide +kernel) (by decide +kernel) rfl rfl rfl hc (fun r I' L' R' hq => by obtain ⟨y, rfl, hp⟩ := hq; exact kk y I' L' R' hp)
theorem w_X8_feed_9 {Q : qQ} {I : qMI} {L : qML} {R : qMR} {a1 : Int32} {a2 : Int32} {a3 : Int32} {a4 : Int32} {a5 : Int32} {s0 : Int32} (kt : ¬ s0 = 0 → wkB l G (d + 1) n_X8_feed Q 14 [.ref 0, .int a1, .int a2, .int a3, .int a4, .int a5] [] I L R) (kf : s0 = 0 → wkB l G (d + 1) n_X8_feed Q 12 [.ref 0, .int a1, .int a2, .int a3, .int a4, .int a5] [] I L R) : wkB l G (d + 1) n_X8_feed Q 9 [.ref 0, .int a1, .int a2, .int a3, .int a4, .int a5] [.int s0] I L R :=
  (fun lv hl => q_if_ne (off := 5) (tgt := 14) (zd (i := .ifCond .ne (5)) (n := 3) (by decide +kernel)) (by decide) (fun h => (kt h) lv hl) (fun h => (kf h) lv hl))
theorem w_X8_feed_12 {Q : qQ} {I : qMI} {L : qML} {R : qMR} {a1 : Int32} {a2 : Int32} {a3 : Int32} {a4 : Int32} {a5 : Int32} (hQ : Q (some (.int (-1))) 336 I L R) : wkB l G (d + 1) n_X8_feed Q 12 [.ref 0, .int a1, .int a2, .int a3, .int a4, .int a5] [] I L R :=
  bb_lift (fun _ => q_iconst (n := -1) (zd (i := .iconst (-1)) (n := 1) (by decide +kernel)) rfl) <|
  (fun lv hl => q_iret (zd (i := .ireturn) (n := 1) (by decide +kernel)) rfl rfl (Nat.le_refl _) (Nat.le_refl _) hQ)
theorem w_X8_feed_14 {Q : qQ} {I : qMI} {L : qML} {R : qMR} {a1 : Int32} {a2 : Int32} {a3 : Int32} {a4 : Int32} {a5 : Int32} (h1 : R 0 0 = some 1) {P : qMI → qML → qMR → Prop} (hc : wkCv l G d n_X5_putWord [.ref 1, .int a1] I L R P) (kk : ∀ I' L' R', P I' L' R' → wkB l G (d + 1) n_X8_feed Q 22 [.ref 0, .int a1, .int a2, .int a3, .int a4, .int a5] [] I' L' R') : wkB l G (d + 1) n_X8_feed Q 14 [.ref 0, .int a1, .int a2, .int a3, .int a4, .int a5] [] I L R :=
  bb_aload_n (n := 0) (i := 0) (zd (i := .aload_n 0) (n := 1) (by decide +kernel)) rfl rfl <|
  bb_getr (k := 0) (ci := 8) (j := 0) (idx := 12) (a := 1) (zd (i := .getfield 12) (n := 3) (by decide +kernel)) (by decide +kernel) (by decide +kernel) (by decide +kernel) (by decide +kernel) rfl g452 h1 <|
  bb_iload_n (n := 1) (i := 1) (zd (i := .iload_n 1) (n := 1) (by decide +kernel)) rfl rfl <|
  bb_callV (idx := 83) (k := 1) (ci := 5) (N := n_X5_putWord) (As := [.int a1]) (st := []) (zd (i := .invokevirtual 83) (n := 3) (by decide +kernel)) to_X5_putWord g503 g504 g505 (Nat.le_of_ble_eq_true rfl) (by decide +kernel) (by decide +kernel) (by decide +kernel) rfl rfl rfl hc (fun r I' L' R' hq => by obtain ⟨rfl, hp⟩ := hq; exact kk I' L' R' hp)
theorem w_X8_feed_22 {Q : qQ} {I : qMI} {L : qML} {R : qMR} {a1 : Int32} {a2 : Int32} {a3 : Int32} {a4 : Int32} {a5 : Int32} (h1 : R 0 0 = some 1) {P : qMI → qML → qMR → Prop} (hc : wkCv l G d n_X5_putWord [.ref 1, .int a2] I L R P) (kk : ∀ I' L' R', P I' L' R' → wkB l G (d + 1) n_X8_feed Q 30 [.ref 0, .int a1, .int a2, .int a3, .int a4, .int a5] [] I' L' R') : wkB l G (d + 1) n_X8_feed Q 22 [.ref 0, .int a1, .int a2, .int a3, .int a4, .int a5] [] I L R :=
  bb_aload_n (n := 0) (i := 0) (zd (i := .aload_n 0) (n := 1) (by decide +kernel)) rfl rfl <|
  bb_getr (k := 0) (ci := 8) (j := 0) (idx := 12) (a := 1) (zd (i := .getfield 12) (n := 3) (by decide +kernel)) (by decide +kernel) (by decide +kernel) (by decide +kernel) (by decide +kernel) rfl g452 h1 <|
  bb_iload_n (n := 2) (i := 2) (zd (i := .iload_n 2) (n := 1) (by decide +kernel)) rfl rfl <|
  bb_callV (idx := 83) (k := 1) (ci := 5) (N := n_X5_putWord) (As := [.int a2]) (st := []) (zd (i := .invokevirtual 83) (n := 3) (by decide +kernel)) to_X5_putWord g503 g504 g505 (Nat.le_of_ble_eq_true rfl) (by decide +kernel) (by decide +kernel) (by decide +kernel) rfl rfl rfl hc (fun r I' L' R' hq => by obtain ⟨rfl, hp⟩ := hq; exact kk I' L' R' hp)
theorem w_X8_feed_30 {Q : qQ} {I : qMI} {L : qML} {R : qMR} {a1 : Int32} {a2 : Int32} {a3 : Int32} {a4 : Int32} {a5 : Int32} (h1 : R 0 0 = some 1) {P : qMI → qML → qMR → Prop} (hc : wkCv l G d n_X5_putWord [.ref 1, .int a3] I L R P) (kk : ∀ I' L' R', P I' L' R' → wkB l G (d + 1) n_X8_feed Q 38 [.ref 0, .int a1, .int a2, .int a3, .int a4, .int a5] [] I' L' R') : wkB l G (d + 1) n_X8_feed Q 30 [.ref 0, .int a1, .int a2, .int a3, .int a4, .int a5] [] I L R :=
  bb_aload_n (n := 0) (i := 0) (zd (i := .aload_n 0) (n := 1) (by decide +kernel)) rfl rfl <|
  bb_getr (k := 0) (ci := 8) (j := 0) (idx := 12) (a := 1) (zd (i := .getfield 12) (n := 3) (by decide +kernel)) (by decide +kernel) (by decide +kernel) (by decide +kernel) (by decide +kernel) rfl g452 h1 <|
  bb_iload_n (n := 3) (i := 3) (zd (i := .iload_n 3) (n := 1) (by decide +kernel)) rfl rfl <|
  bb_callV (idx := 83) (k := 1) (ci := 5) (N := n_X5_putWord) (As := [.int a3]) (st := []) (zd (i := .invokevirtual 83) (n := 3) (by decide +kernel)) to_X5_putWord g503 g504 g505 (Nat.le_of_ble_eq_true rfl) (by decide +kernel) (by decide +kernel) (by decide +kernel) rfl rfl rfl hc (fun r I' L' R' hq => by obtain ⟨rfl, hp⟩ := hq; exact kk I' L' R' hp)
theorem w_X8_feed_38 {Q : qQ} {I : qMI} {L : qML} {R : qMR} {a1 : Int32} {a2 : Int32} {a3 : Int32} {a4 : Int32} {a5 : Int32} (h1 : R 0 0 = some 1) {P : qMI → qML → qMR → Prop} (hc : wkCv l G d n_X5_putWord [.ref 1, .int a4] I L R P) (kk : ∀ I' L' R', P I' L' R' → wkB l G (d + 1) n_X8_feed Q 47 [.ref 0, .int a1, .int a2, .int a3, .int a4, .int a5] [] I' L' R') : wkB l G (d + 1) n_X8_feed Q 38 [.ref 0, .int a1, .int a2, .int a3, .int a4, .int a5] [] I L R :=
  bb_aload_n (n := 0) (i := 0) (zd (i := .aload_n 0) (n := 1) (by decide +kernel)) rfl rfl <|
  bb_getr (k := 0) (ci := 8) (j := 0) (idx := 12) (a := 1) (zd (i := .getfield 12) (n := 3) (by decide +kernel)) (by decide +kernel) (by decide +kernel) (by decide +kernel) (by decide +kernel) rfl g452 h1 <|
  bb_iload (i := 4) (zd (i := .iload 4) (n := 2) (by decide +kernel)) rfl <|
  bb_callV (idx := 83) (k := 1) (ci := 5) (N := n_X5_putWord) (As := [.int a4]) (st := []) (zd (i := .invokevirtual 83) (n := 3) (by decide +kernel)) to_X5_putWord g503 g504 g505 (Nat.le_of_ble_eq_true rfl) (by decide +kernel) (by decide +kernel) (by decide +kernel) rfl rfl rfl hc (fun r I' L' R' hq => by obtain ⟨rfl, hp⟩ := hq; exact kk I' L' R' hp)
theorem w_X8_feed_47 {Q : qQ} {I : qMI} {L : qML} {R : qMR} {a1 : Int32} {a2 : Int32} {a3 : Int32} {a4 : Int32} {a5 : Int32} (h1 : R 0 0 = some 1) {P : qMI → qML → qMR → Prop} (hc : wkCv l G d n_X5_putWord [.ref 1, .int a5] I L R P) (kk : ∀ I' L' R', P I' L' R' → wkB l G (d + 1) n_X8_feed Q 56 [.ref 0, .int a1, .int a2, .int a3, .int a4, .int a5] [] I' L' R') : wkB l G (d + 1) n_X8_feed Q 47 [.ref 0, .int a1, .int a2, .int a3, .int a4, .int a5] [] I L R :=
  bb_aload_n (n := 0) (i := 0) (zd (i := .aload_n 0) (n := 1) (by decide +kernel)) rfl rfl <|
  bb_getr (k := 0) (ci := 8) (j := 0) (idx := 12) (a := 1) (zd (i := .getfield 12) (n := 3) (by decide +kernel)) (by decide +kernel) (by decide +kernel) (by decide +kernel) (by decide +kernel) rfl g452 h1 <|
  bb_iload (i := 5) (zd (i := .iload 5) (n := 2) (by decide +kernel)) rfl <|
  bb_callV (idx := 83) (k := 1) (ci := 5) (N := n_X5_putWord) (As := [.int a5]) (st := []) (zd (i := .invokevirtual 83) (n := 3) (by decide +kernel)) to_X5_putWord g503 g504 g505 (Nat.le_of_ble_eq_true rfl) (by decide +kernel) (by decide +kernel) (by decide +kernel) rfl rfl rfl hc (fun r I' L' R' hq => by obtain ⟨rfl, hp⟩ := hq; exact kk I' L' R' hp)
theorem w_X8_feed_56 {Q : qQ} {I : qMI} {L : qML} {R : qMR} {a1 : Int32} {a2 : Int32} {a3 : Int32} {a4 : Int32} {a5 : Int32} (h1 : R 0 0 = some 1) (hQ : Q (some (.int (I 1 1))) 336 I L R) : wkB l G (d + 1) n_X8_feed Q 56 [.ref 0, .int a1, .int a2, .int a3, .int a4, .int a5] [] I L R :=
  bb_aload_n (n := 0) (i := 0) (zd (i := .aload_n 0) (n := 1) (by decide +kernel)) rfl rfl <|
  bb_getr (k := 0) (ci := 8) (j := 0) (idx := 12) (a := 1) (zd (i := .getfield 12) (n := 3) (by decide +kernel)) (by decide +kernel) (by decide +kernel) (by decide +kernel) (by decide +kernel) rfl g452 h1 <|
  bb_geti (k := 1) (ci := 5) (j := 1) (idx := 87) (zd (i := .getfield 87) (n := 3) (by decide +kernel)) (by decide +kernel) (by decide +kernel) (by decide +kernel) (by decide +kernel) rfl g131 <|
  (fun lv hl => q_iret (zd (i := .ireturn) (n := 1) (by decide +kernel)) rfl rfl (Nat.le_refl _) (Nat.le_refl _) hQ)
theorem w_X8_back_0 {Q : qQ} {I : qMI} {L : qML} {R : qMR} {a1 : Int32} (h1 : R 0 0 = some 1) {P : Int32 → qMI → qML → qMR → Prop} (hc : wkCi l G d n_X5_drop [.ref 1, .int a1] I L R P) (kk : ∀ y I' L' R', P y I' L' R' → wkB l G (d + 1) n_X8_back Q 8 [.ref 0, .int a1] [.int y] I' L' R') : wkB l G (d + 1) n_X8_back Q 0 [.ref 0, .int a1] [] I L R :=
  bb_aload_n (n := 0) (i := 0) (zd (i := .aload_n 0) (n := 1) (by decide +kernel)) rfl rfl <|
  bb_getr (k := 0) (ci := 8) (j := 0) (idx := 12) (a := 1) (zd (i := .getfield 12) (n := 3) (by decide +kernel)) (by decide +kernel) (by decide +kernel) (by decide +kernel) (by decide +kernel) rfl g452 h1 <|
  bb_iload_n (n := 1) (i := 1) (zd (i := .iload_n 1) (n := 1) (by decide +kernel)) rfl rfl <|
  bb_callV (idx := 90) (k := 1) (ci := 5) (N := n_X5_drop) (As := [.int a1]) (st := []) (zd (i := .invokevirtual 90) (n := 3) (by decide +kernel)) to_X5_drop g511 g512 g513 (Nat.le_of_ble_eq_true rfl) (by decide +kernel) (by decide +kernel) (by decide +kernel) rfl rfl rfl hc (fun r I' L' R' hq => by obtain ⟨y, rfl, hp⟩ := hq; exact kk y I' L' R' hp)
theorem w_X8_back_8 {Q : qQ} {I : qMI} {L : qML} {R : qMR} {a1 : Int32} {s0 : Int32} (kt : s0 = 0 → wkB l G (d + 1) n_X8_back Q 21 [.ref 0, .int a1] [] I L R) (kf : ¬ s0 = 0 → wkB l G (d + 1) n_X8_back Q 11 [.ref 0, .int a1] [] I L R) : wkB l G (d + 1) n_X8_back Q 8 [.ref 0, .int a1] [.int s0] I L R :=
  (fun lv hl => q_if_eq (off := 13) (tgt := 21) (zd (i := .ifCond .eq (13)) (n := 3) (by decide +kernel)) (by decide) (fun h => (kt h) lv hl) (fun h => (kf h) lv hl))
theorem w_X8_back_11 {Q : qQ} {I : qMI} {L : qML} {R : qMR} {a1 : Int32} (h1 : R 0 0 = some 1) (k : wkB l G (d + 1) n_X8_back Q 22 [.ref 0, .int a1] [.int (I 1 1)] I L R) : wkB l G (d + 1) n_X8_back Q 11 [.ref 0, .int a1] [] I L R :=
  bb_aload_n (n := 0) (i := 0) (zd (i := .aload_n 0) (n := 1) (by decide +kernel)) rfl rfl <|
  bb_getr (k := 0) (ci := 8) (j := 0) (idx := 12) (a := 1) (zd (i := .getfield 12) (n := 3) (by decide +kernel)) (by decide +kernel) (by decide +kernel) (by decide +kernel) (by decide +kernel) rfl g452 h1 <|
  bb_geti (k := 1) (ci := 5) (j := 1) (idx := 87) (zd (i := .getfield 87) (n := 3) (by decide +kernel)) (by decide +kernel) (by decide +kernel) (by decide +kernel) (by decide +kernel) rfl g131 <|
  bb_lift (fun _ => q_goto (off := 4) (tgt := 22) (zd (i := .goto (4)) (n := 3) (by decide +kernel)) (by decide)) k
theorem w_X8_back_21 {Q : qQ} {I : qMI} {L : qML} {R : qMR} {a1 : Int32} (k : wkB l G (d + 1) n_X8_back Q 22 [.ref 0, .int a1] [.int (-1)] I L R) : wkB l G (d + 1) n_X8_back Q 21 [.ref 0, .int a1] [] I L R :=
  bb_lift (fun _ => q_iconst (n := -1) (zd (i := .iconst (-1)) (n := 1) (by decide +kernel)) rfl) <|
  k
theorem w_X8_back_22 {Q : qQ} {I : qMI} {L : qML} {R : qMR} {a1 : Int32} {s0 : Int32} (hQ : Q (some (.int s0)) 336 I L R) : wkB l G (d + 1) n_X8_back Q 22 [.ref 0, .int a1] [.int s0] I L R :=
  (fun lv hl => q_iret (zd (i := .ireturn) (n := 1) (by decide +kernel)) rfl rfl (Nat.le_refl _) (Nat.le_refl _) hQ)
theorem w_X8_place_0 {Q : qQ} {I : qMI} {L : qML} {R : qMR}  (hQ : Q (some (.int (I 0 13))) 336 I L R) : wkB l G (d + 1) n_X8_place Q 0 [.ref 0] [] I L R :=
  bb_aload_n (n := 0) (i := 0) (zd (i := .aload_n 0) (n := 1) (by decide +kernel)) rfl rfl <|
  bb_geti (k := 0) (ci := 8) (j := 13) (idx := 75) (zd (i := .getfield 75) (n := 3) (by decide +kernel)) (by decide +kernel) (by decide +kernel) (by decide +kernel) (by decide +kernel) rfl g465 <|
  (fun lv hl => q_iret (zd (i := .ireturn) (n := 1) (by decide +kernel)) rfl rfl (Nat.le_refl _) (Nat.le_refl _) hQ)
theorem w_X9_place_0 {Q : qQ} {I : qMI} {L : qML} {R : qMR}  (hQ : Q (some (.int (I 292 17))) 336 I L R) : wkB l G (d + 1) n_X9_place Q 0 [.ref 292] [] I L R :=
  bb_aload_n (n := 0) (i := 0) (zd (i := .aload_n 0) (n := 1) (by decide +kernel)) rfl rfl <|
  bb_geti (k := 292) (ci := 9) (j := 17) (idx := 37) (zd (i := .getfield 37) (n := 3) (by decide +kernel)) (by decide +kernel) (by decide +kernel) (by decide +kernel) (by decide +kernel) rfl g1145 <|
  (fun lv hl => q_iret (zd (i := .ireturn) (n := 1) (by decide +kernel)) rfl rfl (Nat.le_refl _) (Nat.le_refl _) hQ)
end
/-! ===== the class's tape: its bytes ===== -/
def cTp (I I' : qMI) : Prop := (∀ k, k ≠ 1 → k ≠ 2 → I' k = I k) ∧ ∀ j, j ≠ 1 → I' 1 j = I 1 j
theorem cTp_rf (I : qMI) : cTp I I := ⟨fun _ _ _ => rfl, fun _ _ => rfl⟩
theorem cTp_tr {I J K : qMI} (h : cTp I J) (g : cTp J K) : cTp I K := ⟨fun k a b => (g.1 k a b).trans (h.1 k a b), fun j a => (g.2 j a).trans (h.2 j a)⟩
theorem cTp_up {I J : qMI} {k i : Nat} {x : Int32} (h : cTp I J) (hk : k = 2 ∨ (k = 1 ∧ i = 1)) : cTp I (qUp J k i x) := ⟨fun a h1 h2 => by rw [← h.1 a h1 h2]; exact funext fun j => qUp_ne (fun q => by omega), fun j hj => by rw [← h.2 j hj]; exact qUp_ne (fun q => by omega)⟩
section
variable {l : Launch} {G : qG} {d : Nat} {I : qMI} {L : qML} {R : qMR}
theorem cPut (hR : R 1 0 = some 2) {x : Int32} (h0 : 0 ≤ (I 1 1).toInt) (h1 : (I 1 1).toInt ≤ 1996) : wkCv l G (d + 1) n_X5_putWord [.ref 1, .int x] I L R (fun I' L' R' => R' = R ∧ L' = L ∧ cTp I I' ∧ (I' 1 1).toInt = (I 1 1).toInt + 4 ∧ I' 2 = tP x (I 2) (I 1 1).toInt.toNat) := by
  have step : ∀ (J : qMI) (n : Int32), ¬ n < 0 → 0 ≤ (J 1 1).toInt → (J 1 1).toInt < 2000 → (∀ J2 : qMI, cTp J J2 → (J2 1 1).toInt = (J 1 1).toInt + 1 → J2 2 = tU (J 2) (J 1 1).toInt.toNat (tB x n) → wkB l G (d + 1) n_X5_putWord (fun r t I' L' R' => t = 336 ∧ r = none ∧ R' = R ∧ L' = L ∧ cTp I I' ∧ (I' 1 1).toInt = (I 1 1).toInt + 4 ∧ I' 2 = tP x (I 2) (I 1 1).toInt.toNat) 3 [.ref 1, .int x, .int (n + (-8))] [] J2 L R) → wkB l G (d + 1) n_X5_putWord (fun r t I' L' R' => t = 336 ∧ r = none ∧ R' = R ∧ L' = L ∧ cTp I I' ∧ (I' 1 1).toInt = (I 1 1).toInt + 4 ∧ I' 2 = tP x (I 2) (I 1 1).toInt.toNat) 3 [.ref 1, .int x, .int n] [] J L R := fun J n hn j0 j1 k => w_X5_putWord_3 (fun q => absurd q hn) (fun _ => w_X5_putWord_7 (fun q => absurd (i_le.mp q) (by rw [show (2000 : Int32).toInt = 2000 from rfl]; omega)) (fun _ => w_X5_putWord_17 hR (vin j0 (by omega)) (k _ (cTp_up (cTp_up (cTp_rf J) (Or.inl rfl)) (Or.inr ⟨rfl, rfl⟩)) (by rw [qUp_at, if_pos ⟨rfl, rfl⟩, qUp_ne (by omega), i_s (by omega)]) (by rw [qUp_ro (by decide), qUp_row, tcn]; rfl))))
  refine wkC_of 1 (by decide) (Nat.le_of_ble_eq_true rfl) (w_X5_putWord_0 ?_)
  refine step I 24 (by decide) h0 (by omega) fun J1 t1 e1 u1 => step J1 _ (by decide) (by omega) (by omega) fun J2 t2 e2 u2 => step J2 _ (by decide) (by omega) (by omega) fun J3 t3 e3 u3 => step J3 _ (by decide) (by omega) (by omega) fun J4 t4 e4 u4 => w_X5_putWord_3 (fun _ => w_X5_putWord_46 ⟨rfl, rfl, rfl, rfl, cTp_tr t1 (cTp_tr t2 (cTp_tr t3 t4)), by omega, ?_⟩) (fun q => absurd (by decide) q)
  rw [u4, u3, u2, u1, show (J1 1 1).toInt.toNat = (I 1 1).toInt.toNat + 1 by omega, show (J2 1 1).toInt.toNat = (I 1 1).toInt.toNat + 2 by omega, show (J3 1 1).toInt.toNat = (I 1 1).toInt.toNat + 3 by omega]
  rfl
theorem cRoom (h0 : 0 ≤ (I 1 1).toInt) (h1 : (I 1 1).toInt ≤ 2000) : wkCi l G (d + 1) n_X5_hasRoom [.ref 1, .int 20] I L R (fun y I' L' R' => R' = R ∧ L' = L ∧ I' = I ∧ ((y = 1 ∧ (I 1 1).toInt ≤ 1980) ∨ (y = 0 ∧ 1980 < (I 1 1).toInt))) := by
  have e20 : (I 1 1 + 20).toInt = (I 1 1).toInt + 20 := i_add (y := 20) (by rw [show (20 : Int32).toInt = 20 from rfl]; omega) (by rw [show (20 : Int32).toInt = 20 from rfl]; omega)
  refine wkC_of 0 (by decide) (Nat.le_of_ble_eq_true rfl) (w_X5_hasRoom_0 (fun q => ?_) (fun q => ?_))
  · have q := i_lt.mp q
    rw [e20, show (2000 : Int32).toInt = 2000 from rfl] at q
    exact w_X5_hasRoom_16 (w_X5_hasRoom_17 ⟨rfl, _, rfl, rfl, rfl, rfl, Or.inr ⟨rfl, by omega⟩⟩ (Or.inl rfl))
  · have q : ¬ _ := fun z => q (i_lt.mpr z)
    rw [e20, show (2000 : Int32).toInt = 2000 from rfl] at q
    exact w_X5_hasRoom_12 (w_X5_hasRoom_17 ⟨rfl, _, rfl, rfl, rfl, rfl, Or.inl ⟨rfl, by omega⟩⟩ (Or.inr rfl))
theorem cFeed (hR0 : R 0 0 = some 1) (hR : R 1 0 = some 2) {x1 x2 x3 x4 x5 : Int32} (h0 : 0 ≤ (I 1 1).toInt) (h1 : (I 1 1).toInt ≤ 2000) : wkCi l G (d + 2) n_X8_feed [.ref 0, .int x1, .int x2, .int x3, .int x4, .int x5] I L R (fun y I' L' R' => R' = R ∧ L' = L ∧ cTp I I' ∧ (((I 1 1).toInt ≤ 1980 ∧ (I' 1 1).toInt = (I 1 1).toInt + 20 ∧ y = I' 1 1 ∧ I' 2 = tF x1 x2 x3 x4 x5 (I 2) (I 1 1).toInt.toNat) ∨ (1980 < (I 1 1).toInt ∧ I' = I ∧ y = -1))) := by
  refine wkC_of 0 (by decide) (Nat.le_of_ble_eq_true rfl) (w_X8_feed_0 hR0 (cRoom (d := d) h0 h1) (fun y J L1 R1 hq => ?_))
  obtain ⟨rfl, rfl, rfl, hy⟩ := hq
  rcases hy with ⟨rfl, hs⟩ | ⟨rfl, hs⟩
  · refine w_X8_feed_9 (fun _ => ?_) (fun q => absurd q (by decide))
    refine w_X8_feed_14 hR0 (cPut (d := d) hR h0 (by omega)) (fun J1 L1 R1 hq => ?_)
    obtain ⟨rfl, rfl, t1, e1, u1⟩ := hq
    refine w_X8_feed_22 hR0 (cPut (d := d) hR (by omega) (by omega)) (fun J2 L1 R1 hq => ?_)
    obtain ⟨rfl, rfl, t2, e2, u2⟩ := hq
    refine w_X8_feed_30 hR0 (cPut (d := d) hR (by omega) (by omega)) (fun J3 L1 R1 hq => ?_)
    obtain ⟨rfl, rfl, t3, e3, u3⟩ := hq
    refine w_X8_feed_38 hR0 (cPut (d := d) hR (by omega) (by omega)) (fun J4 L1 R1 hq => ?_)
    obtain ⟨rfl, rfl, t4, e4, u4⟩ := hq
    refine w_X8_feed_47 hR0 (cPut (d := d) hR (by omega) (by omega)) (fun J5 L1 R1 hq => ?_)
    obtain ⟨rfl, rfl, t5, e5, u5⟩ := hq
    refine w_X8_feed_56 hR0 ⟨rfl, _, rfl, rfl, rfl, cTp_tr (cTp_tr (cTp_tr (cTp_tr t1 t2) t3) t4) t5, Or.inl ⟨by omega, by omega, rfl, ?_⟩⟩
    rw [u5, u4, u3, u2, u1, show (J1 1 1).toInt.toNat = (J 1 1).toInt.toNat + 4 by omega, show (J2 1 1).toInt.toNat = (J 1 1).toInt.toNat + 8 by omega, show (J3 1 1).toInt.toNat = (J 1 1).toInt.toNat + 12 by omega, show (J4 1 1).toInt.toNat = (J 1 1).toInt.toNat + 16 by omega]
    rfl
  · refine w_X8_feed_9 (fun q => absurd rfl q) (fun _ => ?_)
    exact w_X8_feed_12 ⟨rfl, _, rfl, rfl, rfl, cTp_rf _, Or.inr ⟨hs, rfl, rfl⟩⟩
theorem cBack (hR0 : R 0 0 = some 1) {x : Int32} : wkCi l G (d + 2) n_X8_back [.ref 0, .int x] I L R (fun y I' L' R' => R' = R ∧ L' = L ∧ cTp I I' ∧ I' 2 = I 2 ∧ (((0 ≤ x.toInt ∧ x.toInt ≤ (I 1 1).toInt) ∧ (I' 1 1).toInt = (I 1 1).toInt - x.toInt ∧ y = I' 1 1) ∨ (¬ (0 ≤ x.toInt ∧ x.toInt ≤ (I 1 1).toInt) ∧ I' = I ∧ y = -1))) := by
  refine wkC_of 0 (by decide) (Nat.le_of_ble_eq_true rfl) (w_X8_back_0 hR0 (cDrop (d := d)) (fun y J L1 R1 hq => ?_))
  obtain ⟨rfl, rfl, hy⟩ := hq
  rcases hy with ⟨rfl, hs, rfl⟩ | ⟨rfl, hs, rfl⟩
  · refine w_X8_back_8 (fun q => absurd q (by decide)) (fun _ => w_X8_back_11 hR0 (w_X8_back_22 ⟨rfl, _, rfl, rfl, rfl, cTp_up (cTp_rf _) (Or.inr ⟨rfl, rfl⟩), qUp_ro (by decide), Or.inl ⟨hs, ?_, rfl⟩⟩))
    rw [qUp_at, if_pos ⟨rfl, rfl⟩]
    have := i_hi (I 1 1)
    exact i_sub (by omega) (by omega)
  · exact w_X8_back_8 (fun _ => w_X8_back_21 (w_X8_back_22 ⟨rfl, _, rfl, rfl, rfl, cTp_rf _, rfl, Or.inr ⟨hs, rfl, rfl⟩⟩)) (fun q => absurd rfl q)
end
