/-! ===== the reference's thing, tells, sight ===== -/
section
variable {l : Launch} {G : qG} {d : Nat} {I : qMI} {L : qML} {R : qMR} {v n : Nat} {A : aD} {f : Nat → Int32} {h sl : Nat → Nat → Int32}
theorem uMovedBy (hR : wkR R) (hL : rHas v I A) {fr x tl hr : Int32} (hf : bnd fr) (hx : bnd x) : wkI l G (d + 5) n_X9_movedBy [.ref 292, .int fr, .int x, .int tl, .int hr] I L R (fun y I' L' => L' = L ∧ rW I I' ∧ y = pMv A hr (pHt A hr) fr x tl) := by
  refine wkC_of 0 (by decide) (Nat.le_of_ble_eq_true rfl) (w_X9_movedBy_0 (uLooksAt (d := d) hR hL hf hx) (fun I1 L1 hq => ?_))
  obtain ⟨rfl, q1, v1⟩ := hq
  refine w_X9_movedBy_9 (uReck (d := d + 2) hR (rHas_q q1 hL) v1 (n := 2) rfl (by decide) (fun _ => rfl)) (fun y I2 L2 hq => ?_)
  obtain ⟨rfl, f2, rfl⟩ := hq
  refine w_X9_movedBy_15 (uHeld (d := d + 3) (by decide)) (fun y I3 L3 hq => ?_)
  obtain ⟨rfl, rfl, rfl⟩ := hq
  exact w_X9_movedBy_22 ⟨rfl, rfl, _, rfl, rfl, rW_tr q1 (rW_y f2), rfl⟩
theorem pSp_n {A : aD} {hr w x tx tl : Int32} (hs : pSe A hr w x tx tl) : ¬ pSp A hr w x tx tl = -1 := by
  unfold pSp
  rw [if_pos hs]
  intro z
  have := (wIn_b (a := 0) (b := 19) (v := tx + (if tx < x then - pMv A hr w x tx tl else pMv A hr w x tx tl)) (by decide)).1
  rw [z] at this
  exact absurd this (by decide)
theorem uSeenAt (hR : wkR R) (hL : rHas v I A) {fr x tl hr : Int32} (hf : bnd fr) (hx : bnd x) : wkI l G (d + 6) n_X9_seenAt [.ref 292, .int fr, .int x, .int tl, .int hr] I L R (fun y I' L' => L' = L ∧ rW I I' ∧ y = if pSp A hr (pHt A hr) fr x tl = -1 then -2 else pSp A hr (pHt A hr) fr x tl) := by
  refine wkC_of 1 (by decide) (Nat.le_of_ble_eq_true rfl) (w_X9_seenAt_0 (uSeen (d := d) hR hL hf hx) (fun z I1 L1 hq => ?_))
  obtain ⟨rfl, q1, rfl⟩ := hq
  refine w_X9_seenAt_9 (fun q => ?_) (fun q => w_X9_seenAt_12 ⟨rfl, rfl, _, rfl, rfl, q1, ?_⟩)
  · have sn := if1.2 q
    refine w_X9_seenAt_15 (uMovedBy (d := d) hR (rHas_q q1 hL) hf hx) (fun z I2 L2 hq => ?_)
    obtain ⟨rfl, q2, rfl⟩ := hq
    have fin : ∀ s : Int32, s = x + (if x < fr then - pMv A hr (pHt A hr) fr x tl else pMv A hr (pHt A hr) fr x tl) → wkB l G (d + 5 + 1) n_X9_seenAt (wkPI R (fun y I' L' => L' = L2 ∧ rW I I' ∧ y = if pSp A hr (pHt A hr) fr x tl = -1 then -2 else pSp A hr (pHt A hr) fr x tl)) 42 [.ref 292, .int fr, .int x, .int tl, .int hr, .int (pMv A hr (pHt A hr) fr x tl)] [.int s] I2 L2 R := fun s es => by
      refine w_X9_seenAt_42 (uHeld (d := d + 4) (by decide)) (fun z I3 L3 hq => ?_)
      obtain ⟨rfl, rfl, rfl⟩ := hq
      refine w_X9_seenAt_48 ⟨rfl, rfl, _, rfl, rfl, rW_tr q1 q2, ?_⟩
      rw [if_neg (pSp_n sn), es]
      unfold pSp
      rw [if_pos sn]
    refine w_X9_seenAt_24 (fun q3 => w_X9_seenAt_38 (fin _ ?_)) (fun q3 => w_X9_seenAt_31 (fin _ ?_))
    · have q3 := i_le.mp q3
      rw [if_neg (fun z => by have := i_lt.mp z; omega)]
    · have q3 := nle q3
      rw [if_pos (i_lt.mpr (by omega)), Int32.sub_eq_add_neg]
  · have : pSp A hr (pHt A hr) fr x tl = -1 := by
      unfold pSp
      rw [if_neg (if1.1 q)]
    rw [if_pos this]
theorem uSightOf (hR : wkR R) (hL : rHas v I A) {fr y hr : Int32} {e : Nat} (hf : bnd fr) (hy : y.toInt = e) (hE : e < A.1.length) (hx : bnd (tX A e)) : wkI l G (d + 7) n_X9_sightOf [.ref 292, .int fr, .int y, .int hr] I L R (fun z I' L' => L' = L ∧ rW I I' ∧ z = pSight A hr fr e) := by
  have hn := (rHas_n hL).1.2
  have hv := hL.1.1
  have li := live_i hL hy (by omega)
  have ci : ((6 * I 292 18) + y).toNatClampNeg = 6 * v + e := by rw [tcn]; omega
  refine wkC_of 0 (by decide) (Nat.le_of_ble_eq_true rfl) (w_X9_sightOf_0 hR (vin (by omega) (by omega)) (vin (by omega) (by omega)) (P := fun z I' L' => L' = L ∧ rW I I' ∧ z = pSight A hr fr e) ?_ (fun z I1 L1 hq => ?_))
  · rw [ci, (rHas_x hL hE).1, (rHas_x hL hE).2]
    exact uSeenAt (d := d) hR hL hf hx
  · obtain ⟨rfl, q1, rfl⟩ := hq
    exact w_X9_sightOf_34 ⟨rfl, rfl, _, rfl, rfl, q1, rfl⟩
theorem uSight2 (hR : wkR R) (hs : rS v A f n h sl I) (hA : aOk A) (hf : fOk A f) {x y m : Int32} : wkI l G (d + 8) n_X9_sight [.ref 292, .int x, .int y, .int m] I L R (fun z I' L' => L' = L ∧ z = qSight A f x y m ∧ rS v A f n h sl I' ∧ rMf I I') := by
  obtain ⟨hL, s1, s2, s3⟩ := id hs
  have bad : ¬ (okX x ∧ okT A y ∧ okH m) → wkB l G (d + 7 + 1) n_X9_sight (wkPI R (fun z I' L' => L' = L ∧ z = qSight A f x y m ∧ rS v A f n h sl I' ∧ rMf I I')) 40 [.ref 292, .int x, .int y, .int m] [] I L R := fun c => w_X9_sight_40 (w_X9_sight_41 ⟨rfl, rfl, _, rfl, rfl, by unfold qSight; rw [if_pos c], hs, rMf_rf I⟩)
  refine wkC_of 0 (by decide) (Nat.le_of_ble_eq_true rfl) (w_X9_sight_0 (uIsX (d := d + 5)) (fun z I1 L1 hq => ?_))
  obtain ⟨rfl, rfl, rfl⟩ := hq
  refine w_X9_sight_4 (fun q => bad (fun c => if1.1 q c.1)) (fun q => w_X9_sight_7 (uIsThing (d := d + 5) hR hL) (fun z I1 L1 hq => ?_))
  obtain ⟨rfl, rfl, rfl⟩ := hq
  refine w_X9_sight_12 (fun q2 => bad (fun c => if1.1 q2 c.2.1)) (fun q2 => w_X9_sight_15 (uIsLong (d := d + 5)) (fun z I1 L1 hq => ?_))
  obtain ⟨rfl, rfl, rfl⟩ := hq
  refine w_X9_sight_19 (fun q3 => bad (fun c => if1.1 q3 c.2.2)) (fun q3 => ?_)
  have c0 : okX x ∧ okT A y ∧ okH m := ⟨if1.2 q, if1.2 q2, if1.2 q3⟩
  have y0 := c0.2.1
  have hy : y.toInt = y.toInt.toNat := by omega
  have bx : bnd x := ⟨c0.1.1, by have := c0.1.2; omega⟩
  refine w_X9_sight_22 hR (vin (by decide) (by decide)) (P := fun z I' L' => L' = L1 ∧ rW I1 I' ∧ z = pSight A (f 96 + m) x y.toInt.toNat) (by rw [show (96 : Int32).toNatClampNeg = 96 from rfl, s1 96 (by omega)]; exact uSightOf (d := d) hR hL bx hy (by omega) (hA.2.1 _ (by omega))) (fun z I3 L3 hq => ?_)
  obtain ⟨rfl, f3, rfl⟩ := hq
  refine w_X9_sight_37 (w_X9_sight_41 ⟨rfl, rfl, _, rfl, rfl, ?_, rS_g hs (rFg_w f3), rMf_g (rFg_w f3)⟩)
  unfold qSight
  rw [if_neg (fun z => z c0)]
theorem uThSeeL (hR : wkR R) (hL : rHas v I A) (hA : aOk A) (hf : fOk A f) (hs : rEq I 324 f) {Q : qQ} {x w : Int32} {e : Nat} (he : x.toInt = e) (hE : e < A.1.length) : ∀ (m a : Nat) (y acc : Int32) (J : qMI), a + m = A.2.1.length → y.toInt = a → rW I J → (∀ J' : qMI, rW I J' → Q (some (.int (qB (fun a => decide (pSn A f a e)) m a y acc))) 336 J' L R) → wkB l G (d + 6 + 1) n_X9_thing Q 81 [.ref 292, .int x, .int w, .int acc, .int y] [] J L R := by
  have n6 := hA.1
  have hv := hL.1.1
  intro m
  induction m with
  | zero =>
    intro a y acc J hn hy hJ k
    have hLJ := rHas_q hJ hL
    have h18' := hLJ.1.2
    have cl : (J 292 18).toNatClampNeg = v := by rw [tcn]; omega
    have hn2 := (rHas_n hLJ).2.1
    exact w_X9_thing_81 hR (vin (by omega) (by omega)) (fun _ => w_X9_thing_130 (k J hJ)) (fun q => absurd (i_le.mpr (by rw [cl]; omega)) q)
  | succ m ih =>
    intro a y acc J hn hy hJ k
    have hLJ := rHas_q hJ hL
    have h18' := hLJ.1.2
    have cl : (J 292 18).toNatClampNeg = v := by rw [tcn]; omega
    have hn2 := (rHas_n hLJ).2.1
    have y1 : (y + 1).toInt = ((a + 1 : Nat) : Int) := by rw [i_s (by omega)]; omega
    have cy : y.toNatClampNeg = a := by rw [tcn]; omega
    have e2 := rEq_w hJ hs
    refine w_X9_thing_81 hR (vin (by omega) (by omega)) (fun q => absurd (i_le.mp q) (by rw [cl]; omega)) (fun _ => w_X9_thing_95 hR (vin (by omega) (by omega)) (vin (by decide) (by decide)) (P := fun z I' L' => L' = L ∧ rW J I' ∧ z = if pSn A f a e then 1 else 0) (by rw [cy, show (96 : Int32).toNatClampNeg = 96 from rfl, e2 _ (by omega), e2 96 (by omega)]; exact uSees (d := d) hR hLJ (hf.1 a (by omega)) he hE (hA.2.1 e hE)) (fun z I3 L3 hq => ?_))
    obtain ⟨rfl, f1, rfl⟩ := hq
    refine w_X9_thing_114 (fun q => w_X9_thing_124 (ih (a + 1) _ _ _ (by omega) y1 (rW_tr hJ f1) (fun J' j => ?_))) (fun q => w_X9_thing_117 (w_X9_thing_124 (ih (a + 1) _ _ _ (by omega) y1 (rW_tr hJ f1) (fun J' j => ?_))))
    · have := k J' j
      rw [qB_f (by exact decide_eq_false (if1.1 q))] at this
      exact this
    · have := k J' j
      rw [qB_t (by exact decide_eq_true (if1.2 q))] at this
      exact this
theorem uThLentL (hR : wkR R) (hL : rHas v I A) (hA : aOk A) (hf : fOk A f) (hs : rEq I 324 f) {Q : qQ} {x w : Int32} {e : Nat} (he : x.toInt = e) (hE : e < A.1.length) : ∀ (m a : Nat) (y acc : Int32), a + m = A.2.1.length → y.toInt = a → Q (some (.int (qB (fun a => decide (¬ f (24 + (6 * a + e)) = 0)) m a y acc))) 336 I L R → wkB l G (d + 1) n_X9_thing Q 135 [.ref 292, .int x, .int w, .int acc, .int y] [] I L R := by
  have n6 := hA.1
  have hv := hL.1.1
  have h18' := hL.1.2
  have cl : (I 292 18).toNatClampNeg = v := by rw [tcn]; omega
  have hn2 := (rHas_n hL).2.1
  intro m
  induction m with
  | zero =>
    intro a y acc hn hy k
    exact w_X9_thing_135 hR (vin (by omega) (by omega)) (fun _ => w_X9_thing_180 k) (fun q => absurd (i_le.mpr (by rw [cl]; omega)) q)
  | succ m ih =>
    intro a y acc hn hy k
    have y1 : (y + 1).toInt = ((a + 1 : Nat) : Int) := by rw [i_s (by omega)]; omega
    have la := ln_t hy he (by omega) (by omega)
    have c24 : ((24 + (6 * y)) + x).toNatClampNeg = 24 + (6 * a + e) := by rw [tcn]; omega
    have lb := (hf.2.2.1 (6 * a + e) (by omega)).1
    refine w_X9_thing_135 hR (vin (by omega) (by omega)) (fun q => absurd (i_le.mp q) (by rw [cl]; omega)) (fun _ => w_X9_thing_149 hR (vin (by omega) (by omega)) (fun q => w_X9_thing_174 (ih (a + 1) _ _ (by omega) y1 ?_)) (fun q => w_X9_thing_167 (w_X9_thing_174 (ih (a + 1) _ _ (by omega) y1 ?_))))
    · rw [c24, hs _ (by omega)] at q
      rw [qB_f (by exact decide_eq_false (fun z => z ((le0 lb).mp q)))] at k
      exact k
    · rw [c24, hs _ (by omega)] at q
      rw [qB_t (by exact decide_eq_true (fun z => q ((le0 lb).mpr z)))] at k
      exact k
theorem uThing2 (hR : wkR R) (hs : rS v A f n h sl I) (hA : aOk A) (hf : fOk A f) {x w : Int32} : wkI l G (d + 7) n_X9_thing [.ref 292, .int x, .int w] I L R (fun z I' L' => L' = L ∧ z = qThing A f x w ∧ rS v A f n h sl I' ∧ rMf I I') := by
  obtain ⟨hL, s1, s2, s3⟩ := id hs
  have n6 := hA.1
  refine wkC_of 2 (by decide) (Nat.le_of_ble_eq_true rfl) (w_X9_thing_0 (uIsThing (d := d + 4) hR hL) (fun z I1 L1 hq => ?_))
  obtain ⟨rfl, rfl, rfl⟩ := hq
  refine w_X9_thing_5 (fun q => ?_) (fun q => w_X9_thing_8 ⟨rfl, rfl, _, rfl, rfl, by unfold qThing; rw [if_pos (if1.1 q)], hs, rMf_rf _⟩)
  have c0 := if1.2 q
  obtain ⟨x0, x1⟩ := id c0
  have ha : x.toInt = x.toInt.toNat := by omega
  generalize hga : x.toInt.toNat = e at ha
  refine w_X9_thing_10 (uCopies (d := d + 5) hR hL s1) (fun I2 L2 hq => ?_)
  obtain ⟨rfl, f2, g2, -, e2⟩ := hq
  have hs2 := rS_cp hs f2 g2
  have r2 : rMf I1 I2 := rMf_cp g2
  have hv := hs2.1.1.1
  have li := live_i hs2.1 ha (by omega)
  have ci : ((6 * I2 292 18) + x).toNatClampNeg = 6 * v + e := by rw [tcn]; omega
  have hx := rHas_x hs2.1 (e := e) (by omega)
  refine w_X9_thing_14 (qSwt_e (fun n0 => ?_) (fun n0 => qSwt_e (fun n1 => ?_) (fun n1 => qSwt_e (fun n2 => ?_) (fun n2 => qSwt_e (fun n3 => ?_) (fun n3 => qSwt_d ?_)))))
  · subst n0
    refine w_X9_thing_48 hR (vin (by omega) (by omega)) ⟨rfl, rfl, _, rfl, rfl, ?_, hs2, r2⟩
    unfold qThing
    rw [if_neg (fun z => z c0), if_pos (by decide), hga, ci, hx.1]
  · subst n1
    refine w_X9_thing_63 hR (vin (by omega) (by omega)) ⟨rfl, rfl, _, rfl, rfl, ?_, hs2, r2⟩
    unfold qThing
    rw [if_neg (fun z => z c0), if_neg (by decide), if_pos (by decide), hga, ci, hx.2]
  · subst n2
    refine w_X9_thing_78 (uThSeeL (d := d) hR hs2.1 hA hf e2 ha (by omega) A.2.1.length 0 0 0 I2 (by omega) rfl (rW_rf I2) (fun J' j => ⟨rfl, rfl, _, rfl, rfl, ?_, rS_g hs2 (rFg_w j), rMf_tr r2 (rMf_g (rFg_w j))⟩))
    unfold qThing
    rw [if_neg (fun z => z c0), if_neg (by decide), if_neg (by decide), if_pos (by decide), hga]
    rfl
  · subst n3
    refine w_X9_thing_132 (uThLentL (d := d + 6) hR hs2.1 hA hf e2 ha (by omega) A.2.1.length 0 0 0 (by omega) rfl ⟨rfl, rfl, _, rfl, rfl, ?_, hs2, r2⟩)
    unfold qThing
    rw [if_neg (fun z => z c0), if_neg (by decide), if_neg (by decide), if_neg (by decide), if_pos (by decide), hga]
    rfl
  · refine w_X9_thing_182 ⟨rfl, rfl, _, rfl, rfl, ?_, hs2, r2⟩
    unfold qThing
    rw [if_neg (fun z => z c0), if_neg n0, if_neg (show ¬ w = 1 from n1), if_neg (show ¬ w = 2 from n2), if_neg (show ¬ w = 3 from n3)]
theorem uTells2 (hR : wkR R) (hs : rS v A f n h sl I) (hA : aOk A) (hf : fOk A f) {w x y m : Int32} : wkI l G (d + 6) n_X9_tells [.ref 292, .int w, .int x, .int y, .int m] I L R (fun z I' L' => L' = L ∧ z = qTells A f w x y m ∧ rS v A f n h sl I' ∧ rMf I I') := by
  obtain ⟨hL, s1, s2, s3⟩ := id hs
  have n6 := hA.1
  refine wkC_of 2 (by decide) (Nat.le_of_ble_eq_true rfl) (w_X9_tells_0 (uCopies (d := d + 4) hR hL s1) (fun I2 L2 hq => ?_))
  obtain ⟨rfl, f2, g2, -, e2⟩ := hq
  have hs2 := rS_cp hs f2 g2
  have r2 : rMf I I2 := rMf_cp g2
  have hL2 := hs2.1
  have z0 : (0 : Int32).toInt = 0 := rfl
  have z9 : (999 : Int32).toInt = 999 := rfl
  have main : ∀ a5 : Int32, (a5 = 0 ↔ ¬ (okX x ∧ okT A y)) → wkB l G (d + 5 + 1) n_X9_tells (wkPI R (fun z I' L' => L' = L2 ∧ z = qTells A f w x y m ∧ rS v A f n h sl I' ∧ rMf I I')) 24 [.ref 292, .int w, .int x, .int y, .int m, wkU, wkU] [.int a5] I2 L2 R := fun a5 c5 => by
    refine w_X9_tells_24 hR (vin (by decide) (by decide)) ?_
    rw [show I2 324 (96 : Int32).toNatClampNeg = f 96 from e2 96 (by omega)]
    refine qSwt_e (fun n0 => ?_) (fun n0 => qSwt_e (fun n1 => ?_) (fun n1 => qSwt_e (fun n2 => ?_) (fun n2 => qSwt_e (fun n3 => ?_) (fun n3 => qSwt_d ?_))))
    · refine w_X9_tells_68 (uHeat (d := d + 2) hR hL2) (fun z I3 L3 hq => ?_)
      obtain ⟨rfl, f3, rfl⟩ := hq
      refine w_X9_tells_74 ⟨rfl, rfl, _, rfl, rfl, ?_, rS_g hs2 (rFg_w f3), rMf_tr r2 (rMf_g (rFg_w f3))⟩
      unfold qTells
      rw [if_pos n0]
    · have n1 : w = 1 := n1
      refine w_X9_tells_75 (fun q => w_X9_tells_118 (w_X9_tells_120 ⟨rfl, rfl, _, rfl, rfl, ?_, hs2, r2⟩)) (fun q => ?_)
      · unfold qTells
        rw [if_neg n0, if_pos n1, if_neg (c5.mp q)]
      · have cc : okX x ∧ okT A y := Decidable.byContradiction (fun z => q (c5.mpr z))
        have cy := cc.2
        have hy : y.toInt = y.toInt.toNat := by omega
        have bx : bnd x := ⟨cc.1.1, by have := cc.1.2; omega⟩
        have hv := hL2.1.1
        have li := live_i hL2 hy (by omega)
        have ci : ((6 * I2 292 18) + y).toNatClampNeg = 6 * v + y.toInt.toNat := by rw [tcn]; omega
        have hx := rHas_x hL2 (e := y.toInt.toNat) (by omega)
        refine w_X9_tells_80 hR (vin (by omega) (by omega)) (vin (by omega) (by omega)) (P := fun z I' L' => L' = L2 ∧ rW I2 I' ∧ z = pMv A (f 96) (pHt A (f 96)) x (tX A y.toInt.toNat) (tT A y.toInt.toNat)) (by rw [ci, hx.1, hx.2]; exact uMovedBy (d := d) hR hL2 bx (hA.2.1 _ (by omega))) (fun z I3 L3 hq => ?_)
        obtain ⟨rfl, f3, rfl⟩ := hq
        refine w_X9_tells_115 (w_X9_tells_120 ⟨rfl, rfl, _, rfl, rfl, ?_, rS_g hs2 (rFg_w f3), rMf_tr r2 (rMf_g (rFg_w f3))⟩)
        unfold qTells
        rw [if_neg n0, if_pos n1, if_pos cc]
    · have n2 : w = 2 := n2
      have low : ¬ ((okX x ∧ okT A y) ∧ 0 ≤ m.toInt ∧ m.toInt ≤ 999) → wkB l G (d + 5 + 1) n_X9_tells (wkPI R (fun z I' L' => L' = L2 ∧ z = qTells A f w x y m ∧ rS v A f n h sl I' ∧ rMf I I')) 151 [.ref 292, .int w, .int x, .int y, .int m, .int a5, .int (f 96)] [] I2 L2 R := fun c => by
        refine w_X9_tells_151 (w_X9_tells_153 ⟨rfl, rfl, _, rfl, rfl, ?_, hs2, r2⟩)
        unfold qTells
        rw [if_neg n0, if_neg (show ¬ w = 1 from n1), if_pos n2, if_neg c]
      refine w_X9_tells_121 (fun q => low (fun z => c5.mp q z.1)) (fun q => w_X9_tells_126 (uIn (d := d + 4)) (fun z I3 L3 hq => ?_))
      obtain ⟨rfl, rfl, rfl⟩ := hq
      have cc : okX x ∧ okT A y := Decidable.byContradiction (fun z => q (c5.mpr z))
      have cy := cc.2
      have hy : y.toInt = y.toInt.toNat := by omega
      have bx : bnd x := ⟨cc.1.1, by have := cc.1.2; omega⟩
      refine w_X9_tells_135 (fun q2 => low (fun z => if1.1 q2 (by rw [z0, z9]; exact z.2))) (fun q2 => w_X9_tells_138 (uRent (d := d) hR hL2 bx hy (by omega) (hA.2.1 _ (by omega))) (fun z I4 L4 hq => ?_))
      obtain ⟨rfl, f4, rfl⟩ := hq
      have c2 := if1.2 q2
      rw [z0, z9] at c2
      refine w_X9_tells_148 (w_X9_tells_153 ⟨rfl, rfl, _, rfl, rfl, ?_, rS_g hs2 (rFg_w f4), rMf_tr r2 (rMf_g (rFg_w f4))⟩)
      unfold qTells
      rw [if_neg n0, if_neg (show ¬ w = 1 from n1), if_pos n2, if_pos ⟨cc, c2⟩]
    · have n3 : w = 3 := n3
      refine w_X9_tells_154 (uIn (d := d + 4)) (fun z I3 L3 hq => ?_)
      obtain ⟨rfl, rfl, rfl⟩ := hq
      refine w_X9_tells_163 (fun q2 => w_X9_tells_177 (w_X9_tells_179 ⟨rfl, rfl, _, rfl, rfl, ?_, hs2, r2⟩)) (fun q2 => w_X9_tells_166 (uInt (d := d + 1) hR hL2) (fun z I4 L4 hq => ?_))
      · have c2 := if1.1 q2
        rw [z0, z9] at c2
        unfold qTells
        rw [if_neg n0, if_neg (show ¬ w = 1 from n1), if_neg (show ¬ w = 2 from n2), if_pos n3, if_neg c2]
      · obtain ⟨rfl, f4, rfl⟩ := hq
        have c2 := if1.2 q2
        rw [z0, z9] at c2
        refine w_X9_tells_174 (w_X9_tells_179 ⟨rfl, rfl, _, rfl, rfl, ?_, rS_g hs2 (rFg_w f4), rMf_tr r2 (rMf_g (rFg_w f4))⟩)
        unfold qTells
        rw [if_neg n0, if_neg (show ¬ w = 1 from n1), if_neg (show ¬ w = 2 from n2), if_pos n3, if_pos c2]
    · refine w_X9_tells_180 ⟨rfl, rfl, _, rfl, rfl, ?_, hs2, r2⟩
      unfold qTells
      rw [if_neg n0, if_neg (show ¬ w = 1 from n1), if_neg (show ¬ w = 2 from n2), if_neg (show ¬ w = 3 from n3)]
  have no : (0 : Int32) = 0 ↔ True := ⟨fun _ => trivial, fun _ => rfl⟩
  refine w_X9_tells_4 (uIsX (d := d + 3)) (fun z I3 L3 hq => ?_)
  obtain ⟨rfl, rfl, rfl⟩ := hq
  refine w_X9_tells_8 (fun q => w_X9_tells_23 (main 0 ⟨fun _ z => if1.1 q z.1, fun _ => rfl⟩)) (fun q => w_X9_tells_11 (uIsThing (d := d + 3) hR hL2) (fun z I3 L3 hq => ?_))
  obtain ⟨rfl, rfl, rfl⟩ := hq
  exact w_X9_tells_16 (fun q2 => w_X9_tells_23 (main 0 ⟨fun _ z => if1.1 q2 z.2, fun _ => rfl⟩)) (fun q2 => w_X9_tells_19 (main 1 ⟨fun z => absurd z (by decide), fun z => absurd ⟨if1.2 q, if1.2 q2⟩ z⟩))
end
