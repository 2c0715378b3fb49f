/-! ===== the class's thing, tells, sight ===== -/
section
variable {l : Launch} {G : qG} {d : Nat} {I : qMI} {L : qML} {R : qMR} {o n : Nat} {A : aD} {f : Nat → Int32} {h sl : Nat → Nat → Int32}
theorem sSpot2 (hL : cHas o I R A) {hr w x tx tl : Int32} (hv : cVr o I (eAim hr w x tx tl)) : wkCi l G (d + 4) n_X2_spot [.ref (o + 6)] I L R (fun z I' L' R' => R' = R ∧ L' = L ∧ cQ o I I' ∧ z = pSp A hr w x tx tl) := by
  have ho := hL.1
  have r4 := hL.2.1.2.1
  refine wkC_of 1 (by decide) (Nat.le_of_ble_eq_true rfl) (w_X2_spot_0 ho (sSeen2 (d := d) hL hv) (fun z I1 L1 R1 hq => ?_))
  obtain ⟨rfl, rfl, f1, rfl⟩ := hq
  have hv1 := cVr_rk f1 hv
  have hL1 := cHas_q (cRk_q f1) hL
  refine w_X2_spot_4 ho (fun q => ?_) (fun q => w_X2_spot_7 ho ⟨rfl, _, rfl, rfl, rfl, cRk_q f1, ?_⟩)
  · have sn := if1.2 q
    have e5 : I1 (o + 10) (5 : Int32).toNatClampNeg = tx := hv1 5 (by decide)
    have e8 : I1 (o + 10) (8 : Int32).toNatClampNeg = x := hv1 8 (by decide)
    have v5 : vp_in 5 9 := vin (by decide) (by decide)
    have v8 : vp_in 8 9 := vin (by decide) (by decide)
    have fin : ∀ (s : Int32) (J : qMI), cQ o I J → cVr o J (eAim hr w x tx tl) → s = (if tx < x then - pMv A hr w x tx tl else pMv A hr w x tx tl) → wkB l G (d + 3 + 1) n_X2_spot (fun r t I' L' R' => t = 336 ∧ ∃ z, r = some (.int z) ∧ R' = R1 ∧ L' = L1 ∧ cQ o I I' ∧ z = pSp A hr w x tx tl) 37 [.ref (o + 6), wkU] [.int s] J L1 R1 := fun s J j vj es => by
      refine w_X2_spot_37 ho r4 v5 (sWithin (d := d + 2)) (fun z I2 L2 R2 hq => ?_)
      obtain ⟨rfl, rfl, rfl, rfl⟩ := hq
      refine w_X2_spot_52 ho ⟨rfl, _, rfl, rfl, rfl, j, ?_⟩
      unfold pSp
      rw [if_pos sn, show I2 (o + 10) (5 : Int32).toNatClampNeg = tx from vj 5 (by decide), es]
    refine w_X2_spot_9 ho r4 v5 r4 v8 (fun q1 => w_X2_spot_32 ho (sMoved2 (d := d) hL1 hv1) (fun z I2 L2 R2 hq => ?_)) (fun q1 => w_X2_spot_25 ho (sMoved2 (d := d) hL1 hv1) (fun z I2 L2 R2 hq => ?_))
    · obtain ⟨rfl, rfl, f2, rfl⟩ := hq
      rw [e5, e8] at q1
      exact w_X2_spot_36 ho (fin _ _ (cQ_tr (cRk_q f1) (cRk_q f2)) (cVr_rk f2 hv1) (by rw [if_pos q1]; rfl))
    · obtain ⟨rfl, rfl, f2, rfl⟩ := hq
      rw [e5, e8] at q1
      exact w_X2_spot_29 ho (fin _ _ (cQ_tr (cRk_q f1) (cRk_q f2)) (cVr_rk f2 hv1) (by rw [if_neg q1]; rfl))
  · unfold pSp
    rw [if_neg (if1.1 q)]
theorem sSpotFrom (hL : cHas o I R A) {x y hr w : Int32} {e : Nat} (he : y.toInt = e) (hE : e < A.1.length) : wkCi l G (d + 5) n_X0_spotFrom [.ref o, .int x, .int y, .int hr, .int w] I L R (fun z I' L' R' => R' = R ∧ L' = L ∧ cQ o I I' ∧ z = pSp A hr w x (tX A e) (tT A e)) := by
  have ho := hL.1
  obtain ⟨⟨-, hn1⟩, -, hn2⟩ := cHas_n hL
  obtain ⟨hF1, hF2, hF3, -, -⟩ := hL.2.2.1
  have cy : y.toNatClampNeg = e := by rw [tcn]; omega
  have vy : vp_in y 6 := vin (by omega) (by omega)
  refine wkC_of 0 (by decide) (Nat.le_of_ble_eq_true rfl) (w_X0_spotFrom_0 ho hF1 hF2 vy hF3 vy (sAim (d := d + 3) ho hL.2.1.2.1) (fun I2 L2 R2 hq => ?_))
  obtain ⟨rfl, rfl, f2, v2⟩ := hq
  rw [cy, (cHas_x hL hE).1, (cHas_x hL hE).2] at v2
  refine w_X0_spotFrom_23 ho hF1 (sSpot2 (d := d) (cHas_q (cV_q f2) hL) v2) (fun z I3 L3 R3 hq => ?_)
  obtain ⟨rfl, rfl, f3, rfl⟩ := hq
  exact w_X0_spotFrom_30 ho ⟨rfl, _, rfl, rfl, rfl, cQ_tr (cV_q f2) f3, rfl⟩
theorem sMovedFrom (hL : cHas o I R A) {x y hr w : Int32} {e : Nat} (he : y.toInt = e) (hE : e < A.1.length) : wkCi l G (d + 4) n_X0_movedFrom [.ref o, .int x, .int y, .int hr, .int w] I L R (fun z I' L' R' => R' = R ∧ L' = L ∧ cQ o I I' ∧ z = pMv A hr w x (tX A e) (tT A e)) := by
  have ho := hL.1
  obtain ⟨⟨-, hn1⟩, -, hn2⟩ := cHas_n hL
  obtain ⟨hF1, hF2, hF3, -, -⟩ := hL.2.2.1
  have cy : y.toNatClampNeg = e := by rw [tcn]; omega
  have vy : vp_in y 6 := vin (by omega) (by omega)
  refine wkC_of 0 (by decide) (Nat.le_of_ble_eq_true rfl) (w_X0_movedFrom_0 ho hF1 hF2 vy hF3 vy (sAim (d := d + 2) ho hL.2.1.2.1) (fun I2 L2 R2 hq => ?_))
  obtain ⟨rfl, rfl, f2, v2⟩ := hq
  rw [cy, (cHas_x hL hE).1, (cHas_x hL hE).2] at v2
  refine w_X0_movedFrom_23 ho hF1 (sMoved2 (d := d) (cHas_q (cV_q f2) hL) v2) (fun z I3 L3 R3 hq => ?_)
  obtain ⟨rfl, rfl, f3, rfl⟩ := hq
  exact w_X0_movedFrom_30 ho ⟨rfl, _, rfl, rfl, rfl, cQ_tr (cV_q f2) (cRk_q f3), rfl⟩
theorem sRentFrom (hL : cHas o I R A) {x y hr w m : Int32} {e : Nat} (he : y.toInt = e) (hE : e < A.1.length) : wkCi l G (d + 4) n_X0_rentFrom [.ref o, .int x, .int y, .int hr, .int w, .int m] I L R (fun z I' L' R' => R' = R ∧ L' = L ∧ cQ o I I' ∧ z = pRt A hr w x (tX A e) (tT A e) m) := by
  have ho := hL.1
  obtain ⟨⟨-, hn1⟩, -, hn2⟩ := cHas_n hL
  obtain ⟨hF1, hF2, hF3, -, -⟩ := hL.2.2.1
  have cy : y.toNatClampNeg = e := by rw [tcn]; omega
  have vy : vp_in y 6 := vin (by omega) (by omega)
  refine wkC_of 0 (by decide) (Nat.le_of_ble_eq_true rfl) (w_X0_rentFrom_0 ho hF1 hF2 vy hF3 vy (sAim (d := d + 2) ho hL.2.1.2.1) (fun I2 L2 R2 hq => ?_))
  obtain ⟨rfl, rfl, f2, v2⟩ := hq
  rw [cy, (cHas_x hL hE).1, (cHas_x hL hE).2] at v2
  refine w_X0_rentFrom_23 ho hF1 (sRent2 (d := d) (cHas_q (cV_q f2) hL) v2) (fun z I3 L3 R3 hq => ?_)
  obtain ⟨rfl, rfl, f3, rfl⟩ := hq
  exact w_X0_rentFrom_32 ho ⟨rfl, _, rfl, rfl, rfl, cQ_tr (cV_q f2) f3, rfl⟩
theorem sSeatsSeeL (hs : cS o A f n h sl I R) {Q : qQ} {x w : Int32} {e : Nat} (he : x.toInt = e) (hE : e < A.1.length) (hw : w = pHt A (f 96)) : ∀ (m a : Nat) (y acc : Int32) (J : qMI), a + m = A.2.1.length → y.toInt = a → cQ o I J → (∀ J' : qMI, cQ o I J' → Q (some (.int (qB (fun a => decide (pSn A f a e)) m a y acc))) 336 J' L R) → wkB l G (d + 4 + 1) n_X8_seatsThatSee Q 20 [.ref 0, .int x, .int w, .int acc, .int y] [] J L R := by
  obtain ⟨⟨hL, hR, h12⟩, s1, -, -⟩ := hs
  have ho := hL.1
  have rb := hR.2.2.2.2 21 bNow
  have b21 := bNow
  intro m
  induction m with
  | zero =>
    intro a y acc J hn hy hJ k
    have hn2 := (cHas_n (cHas_q hJ hL)).2.1
    exact w_X8_seatsThatSee_20 ho h12 (fun _ => w_X8_seatsThatSee_74 (k J hJ)) (fun q => absurd (i_le.mpr (by omega)) q)
  | succ m ih =>
    intro a y acc J hn hy hJ k
    have hLJ := cHas_q hJ hL
    have hn2 := (cHas_n hLJ).2
    have sJ := sEq_q ho b21 hJ s1
    have y1 : (y + 1).toInt = ((a + 1 : Nat) : Int) := by rw [i_s (by omega)]; omega
    have cy : y.toNatClampNeg = a := by rw [tcn]; omega
    have e1 : J 22 y.toNatClampNeg = f a := by rw [cy]; exact sEq_at sJ (by omega) (sI1 (by omega))
    have e0 : J 21 0 = f 96 := sEq_at sJ (by omega) sI0
    refine w_X8_seatsThatSee_20 ho h12 (fun q => absurd (i_le.mp q) (by omega)) (fun _ => w_X8_seatsThatSee_32 ho h12 hR.1.1 (rb 1 (by decide) (by decide)) (vin (by omega) (by omega)) hR.1.1 (P := fun z I' L' R' => R' = R ∧ L' = L ∧ cQ o J I' ∧ z = if pSn A f a e then 1 else 0) (by rw [e1, e0, hw]; exact sSeenFrom (d := d) hLJ he hE) (fun z I1 L1 R1 hq => ?_))
    obtain ⟨rfl, rfl, f1, rfl⟩ := hq
    refine w_X8_seatsThatSee_58 (fun q => w_X8_seatsThatSee_68 (ih (a + 1) _ _ _ (by omega) y1 (cQ_tr hJ f1) (fun J' j => ?_))) (fun q => w_X8_seatsThatSee_61 (w_X8_seatsThatSee_68 (ih (a + 1) _ _ _ (by omega) y1 (cQ_tr hJ f1) (fun J' j => ?_))))
    · have := k J' j
      rw [qB_f (by exact decide_eq_false (if1.1 q))] at this
      exact this
    · have := k J' j
      rw [qB_t (by exact decide_eq_true (if1.2 q))] at this
      exact this
theorem sSeatsSee (hs : cS o A f n h sl I R) {x : Int32} {e : Nat} (he : x.toInt = e) (hE : e < A.1.length) : wkCi l G (d + 5) n_X8_seatsThatSee [.ref 0, .int x] I L R (fun z I' L' R' => R' = R ∧ L' = L ∧ cQ o I I' ∧ z = qSeatsSee A f e) := by
  obtain ⟨⟨hL, hR, h12⟩, s1, -, -⟩ := id hs
  refine wkC_of 3 (by decide) (Nat.le_of_ble_eq_true rfl) (w_X8_seatsThatSee_0 hL.1 h12 hR.1.1 (sHeat (d := d) hL) (fun z I1 L1 R1 hq => ?_))
  obtain ⟨rfl, rfl, f1, rfl⟩ := hq
  have e0 : I 21 0 = f 96 := sEq_at s1 (by omega) sI0
  exact w_X8_seatsThatSee_14 (sSeatsSeeL (d := d) (cS_q hs f1) he hE (by rw [e0]) A.2.1.length 0 0 0 I1 (by omega) rfl (cQ_rf o I1) (fun J' j => ⟨rfl, _, rfl, rfl, rfl, cQ_tr f1 j, rfl⟩))
theorem sSeatsLentL (hs : cS o A f n h sl I R) {Q : qQ} {x : Int32} {e : Nat} (he : x.toInt = e) (hE : e < A.1.length) : ∀ (m a : Nat) (y acc : Int32), a + m = A.2.1.length → y.toInt = a → Q (some (.int (qB (fun a => decide (¬ f (24 + (6 * a + e)) = 0)) m a y acc))) 336 I L R → wkB l G (d + 1 + 1) n_X8_seatsThatLent Q 4 [.ref 0, .int x, .int acc, .int y] [] I L R := by
  obtain ⟨⟨hL, hR, h12⟩, s1, -, -⟩ := hs
  have ho := hL.1
  obtain ⟨⟨hn1, hn3⟩, hn4, hn2⟩ := cHas_n hL
  intro m
  induction m with
  | zero =>
    intro a y acc hn hy k
    exact w_X8_seatsThatLent_4 ho h12 (fun _ => w_X8_seatsThatLent_43 k) (fun q => absurd (i_le.mpr (by omega)) q)
  | succ m ih =>
    intro a y acc hn hy k
    have y1 : (y + 1).toInt = ((a + 1 : Nat) : Int) := by rw [i_s (by omega)]; omega
    have la := loan_t hy he (by omega) (by omega)
    have ca : (y * 6 + x).toNatClampNeg = 6 * a + e := by rw [tcn]; omega
    have el : I 26 (6 * a + e) = f (24 + (6 * a + e)) := sEq_at s1 (by omega) (sI5 (by omega))
    refine w_X8_seatsThatLent_4 ho h12 (fun q => absurd (i_le.mp q) (by omega)) (fun _ => w_X8_seatsThatLent_15 hR.1.1 (hR.2.2.2.2 21 bNow 5 (by decide) (by decide)) (sLoanOf (d := d)) (fun z I1 L1 R1 hq => ?_))
    obtain ⟨rfl, rfl, rfl, rfl⟩ := hq
    refine w_X8_seatsThatLent_27 (vin (by omega) (by omega)) (fun q => w_X8_seatsThatLent_37 (ih (a + 1) _ _ (by omega) y1 ?_)) (fun q => w_X8_seatsThatLent_31 (w_X8_seatsThatLent_37 (ih (a + 1) _ _ (by omega) y1 ?_)))
    · rw [ca, el] at q
      rw [qB_f (by exact decide_eq_false (fun z => z q))] at k
      exact k
    · rw [ca, el] at q
      rw [qB_t (by exact decide_eq_true q)] at k
      exact k
theorem sSeatsLent (hs : cS o A f n h sl I R) {x : Int32} {e : Nat} (he : x.toInt = e) (hE : e < A.1.length) : wkCi l G (d + 2) n_X8_seatsThatLent [.ref 0, .int x] I L R (fun z I' L' R' => R' = R ∧ L' = L ∧ I' = I ∧ z = qSeatsLent A f e) :=
  wkC_of 2 (by decide) (Nat.le_of_ble_eq_true rfl) (w_X8_seatsThatLent_0 (sSeatsLentL (d := d) hs he hE A.2.1.length 0 0 0 (by omega) rfl ⟨rfl, _, rfl, rfl, rfl, rfl, rfl⟩))
theorem sThing (hs : cS o A f n h sl I R) {x w : Int32} : wkCi l G (d + 6) n_X8_thing [.ref 0, .int x, .int w] I L R (fun z I' L' R' => R' = R ∧ L' = L ∧ z = qThing A f x w ∧ cS o A f n h sl I' R') := by
  obtain ⟨⟨hL, hR, h12⟩, s1, s2, s3⟩ := id hs
  obtain ⟨hF1, hF2, hF3, -, -⟩ := hL.2.2.1
  have hn1 := (cHas_n hL).1.2
  refine wkC_of 0 (by decide) (Nat.le_of_ble_eq_true rfl) (w_X8_thing_0 (sIsThing (d := d + 4) hL h12) (fun z I1 L1 R1 hq => ?_))
  obtain ⟨rfl, rfl, rfl, rfl⟩ := hq
  refine w_X8_thing_5 (fun q => ?_) (fun q => w_X8_thing_8 ⟨rfl, _, rfl, rfl, rfl, by unfold qThing; rw [if_pos (if1.1 q)], hs⟩)
  have c0 := if1.2 q
  obtain ⟨x0, x1⟩ := id c0
  have ha : x.toInt = x.toInt.toNat := by omega
  generalize hga : x.toInt.toNat = e at ha
  have cx : x.toNatClampNeg = e := by rw [tcn]; omega
  have vx : vp_in x 6 := vin (by omega) (by omega)
  have hx := cHas_x hL (e := e) (by omega)
  refine w_X8_thing_10 (qSwt_e (fun n0 => ?_) (fun n0 => qSwt_e (fun n1 => ?_) (fun n1 => qSwt_e (fun n2 => ?_) (fun n2 => qSwt_e (fun n3 => ?_) (fun n3 => qSwt_d ?_)))))
  · subst n0
    refine w_X8_thing_40 hL.1 h12 hF2 vx ⟨rfl, _, rfl, rfl, rfl, ?_, hs⟩
    unfold qThing
    rw [if_neg (fun z => z c0), if_pos (by decide), hga, cx, hx.1]
  · subst n1
    refine w_X8_thing_50 hL.1 h12 hF3 vx ⟨rfl, _, rfl, rfl, rfl, ?_, hs⟩
    unfold qThing
    rw [if_neg (fun z => z c0), if_neg (by decide), if_pos (by decide), hga, cx, hx.2]
  · subst n2
    refine w_X8_thing_60 (sSeatsSee (d := d) hs ha (by omega)) (fun z I2 L2 R2 hq => ?_)
    obtain ⟨rfl, rfl, f2, rfl⟩ := hq
    refine w_X8_thing_65 ⟨rfl, _, rfl, rfl, rfl, ?_, cS_q hs f2⟩
    unfold qThing
    rw [if_neg (fun z => z c0), if_neg (by decide), if_neg (by decide), if_pos (by decide), hga]
  · subst n3
    refine w_X8_thing_66 (sSeatsLent (d := d + 3) hs ha (by omega)) (fun z I2 L2 R2 hq => ?_)
    obtain ⟨rfl, rfl, rfl, rfl⟩ := hq
    refine w_X8_thing_71 ⟨rfl, _, rfl, rfl, rfl, ?_, hs⟩
    unfold qThing
    rw [if_neg (fun z => z c0), if_neg (by decide), if_neg (by decide), if_neg (by decide), if_pos (by decide), hga]
  · refine w_X8_thing_72 ⟨rfl, _, rfl, rfl, rfl, ?_, hs⟩
    unfold qThing
    rw [if_neg (fun z => z c0), if_neg n0, if_neg (show ¬ w = 1 from n1), if_neg (show ¬ w = 2 from n2), if_neg (show ¬ w = 3 from n3)]
theorem sTells (hs : cS o A f n h sl I R) {w x y m : Int32} : wkCi l G (d + 5) n_X8_tells [.ref 0, .int w, .int x, .int y, .int m] I L R (fun z I' L' R' => R' = R ∧ L' = L ∧ z = qTells A f w x y m ∧ cS o A f n h sl I' R') := by
  obtain ⟨⟨hL, hR, h12⟩, s1, s2, s3⟩ := id hs
  have ho := hL.1
  have r2 := hR.1.1
  have hn1 := (cHas_n hL).1.2
  have e0 : I 21 0 = f 96 := sEq_at s1 (by omega) sI0
  have b21 := bNow
  let Q : qQ := fun r t I' L' R' => t = 336 ∧ ∃ z, r = some (.int z) ∧ R' = R ∧ L' = L ∧ z = qTells A f w x y m ∧ cS o A f n h sl I' R'
  have bad : ∀ (a5 a6 : Int32), qTells A f w x y m = -100 → wkB l G (d + 4 + 1) n_X8_tells Q 72 [.ref 0, .int w, .int x, .int y, .int m, .int a5, .int a6, wkU] [] I L R := fun a5 a6 c => w_X8_tells_72 ⟨rfl, _, rfl, rfl, rfl, c.symm, hs⟩
  have go : ∀ (a5 a6 : Int32), ((w = 1 ∨ w = 2) → okX x ∧ okT A y) → ((w = 2 ∨ w = 3) → 0 ≤ m.toInt ∧ m.toInt ≤ 999) → wkB l G (d + 4 + 1) n_X8_tells Q 75 [.ref 0, .int w, .int x, .int y, .int m, .int a5, .int a6, wkU] [] I L R := fun a5 a6 c1 c2 => by
    refine w_X8_tells_75 ho h12 r2 (sHeat (d := d) hL) (fun z I1 L1 R1 hq => ?_)
    obtain ⟨rfl, rfl, f1, rfl⟩ := hq
    have hs1 := cS_q hs f1
    have hL1 := hs1.1.1
    have e1 : I1 21 0 = f 96 := sEq_at hs1.2.1 (by omega) sI0
    rw [e0]
    refine w_X8_tells_89 (qSwt_e (fun n0 => ?_) (fun n0 => qSwt_e (fun n1 => ?_) (fun n1 => qSwt_e (fun n2 => ?_) (fun n2 => qSwt_e (fun n3 => ?_) (fun n3 => qSwt_d ?_)))))
    · refine w_X8_tells_124 ⟨rfl, _, rfl, rfl, rfl, ?_, hs1⟩
      unfold qTells
      rw [if_pos n0]
    · have n1 : w = 1 := n1
      obtain ⟨cx, y0, y1⟩ := c1 (Or.inl n1)
      have hy : y.toInt = y.toInt.toNat := by omega
      refine w_X8_tells_127 ho h12 r2 (sMovedFrom (d := d) hL1 hy (by omega)) (fun z I2 L2 R2 hq => ?_)
      obtain ⟨rfl, rfl, f2, rfl⟩ := hq
      refine w_X8_tells_145 ⟨rfl, _, rfl, rfl, rfl, ?_, cS_q hs1 f2⟩
      unfold qTells
      rw [if_neg n0, if_pos n1, if_pos ⟨cx, y0, y1⟩, e1]
    · have n2 : w = 2 := n2
      obtain ⟨cx, y0, y1⟩ := c1 (Or.inr n2)
      have hy : y.toInt = y.toInt.toNat := by omega
      refine w_X8_tells_146 ho h12 r2 (sRentFrom (d := d) hL1 hy (by omega)) (fun z I2 L2 R2 hq => ?_)
      obtain ⟨rfl, rfl, f2, rfl⟩ := hq
      refine w_X8_tells_166 ⟨rfl, _, rfl, rfl, rfl, ?_, cS_q hs1 f2⟩
      unfold qTells
      rw [if_neg n0, if_neg (show ¬ w = 1 from n1), if_pos n2, if_pos ⟨⟨cx, y0, y1⟩, c2 (Or.inl n2)⟩, e1]
    · have n3 : w = 3 := n3
      refine w_X8_tells_167 ho h12 hL1.2.2.1.1 r2 (sInt2 (d := d + 1) hL1) (fun z I2 L2 R2 hq => ?_)
      obtain ⟨rfl, rfl, f2, rfl⟩ := hq
      refine w_X8_tells_188 ⟨rfl, _, rfl, rfl, rfl, ?_, cS_q hs1 f2⟩
      unfold qTells
      rw [if_neg n0, if_neg (show ¬ w = 1 from n1), if_neg (show ¬ w = 2 from n2), if_pos n3, if_pos (c2 (Or.inr n3)), e1]
    · refine w_X8_tells_189 ⟨rfl, _, rfl, rfl, rfl, ?_, hs1⟩
      unfold qTells
      rw [if_neg n0, if_neg (show ¬ w = 1 from n1), if_neg (show ¬ w = 2 from n2), if_neg (show ¬ w = 3 from n3)]
  have v12 : ¬ (okX x ∧ okT A y) → (w = 1 ∨ w = 2) → qTells A f w x y m = -100 := fun c q => by
    unfold qTells
    rcases q with q | q
    · rw [q, if_neg (by decide), if_pos rfl, if_neg c]
    · rw [q, if_neg (by decide), if_neg (by decide), if_pos rfl, if_neg (fun z => c z.1)]
  have v23 : ¬ (0 ≤ m.toInt ∧ m.toInt ≤ 999) → (w = 2 ∨ w = 3) → qTells A f w x y m = -100 := fun c q => by
    unfold qTells
    rcases q with q | q
    · rw [q, if_neg (by decide), if_neg (by decide), if_pos rfl, if_neg (fun z => c z.2)]
    · rw [q, if_neg (by decide), if_neg (by decide), if_neg (by decide), if_pos rfl, if_neg c]
  -- of lent
  have p54 : ∀ (a5 a6 : Int32), ((w = 1 ∨ w = 2) → okX x ∧ okT A y) → (a6 = 0 ↔ ¬ (w = 2 ∨ w = 3)) → wkB l G (d + 4 + 1) n_X8_tells Q 54 [.ref 0, .int w, .int x, .int y, .int m, .int a5, .int a6, wkU] [] I L R := fun a5 a6 c1 c6 => by
    refine w_X8_tells_54 (fun q => go a5 a6 c1 (fun z => absurd z (c6.mp q))) (fun q => ?_)
    have w23 : w = 2 ∨ w = 3 := Decidable.byContradiction (fun z => q (c6.mpr z))
    refine w_X8_tells_59 (fun q2 => bad a5 a6 (v23 (fun z => ?_) w23)) (fun q2 => w_X8_tells_64 (fun q3 => go a5 a6 c1 (fun _ => ⟨?_, ?_⟩)) (fun q3 => bad a5 a6 (v23 (fun z => q3 (i_le.mpr z.2)) w23)))
    · have q2 := i_lt.mp q2
      rw [show (0 : Int32).toInt = 0 from rfl] at q2
      omega
    · have q2 := nlt q2
      rw [show (0 : Int32).toInt = 0 from rfl] at q2
      omega
    · exact i_le.mp q3
  have p32 : ∀ (a5 a6 : Int32), (a5 = 0 ↔ ¬ (w = 1 ∨ w = 2)) → (a6 = 0 ↔ ¬ (w = 2 ∨ w = 3)) → wkB l G (d + 4 + 1) n_X8_tells Q 32 [.ref 0, .int w, .int x, .int y, .int m, .int a5, wkU, wkU] [.int a6] I L R := fun a5 a6 c5 c6 => by
    refine w_X8_tells_32 (fun q => p54 a5 a6 (fun z => absurd z (c5.mp q)) c6) (fun q => ?_)
    have w12 : w = 1 ∨ w = 2 := Decidable.byContradiction (fun z => q (c5.mpr z))
    refine w_X8_tells_39 (sIsX (d := d + 3)) (fun z I1 L1 R1 hq => ?_)
    obtain ⟨rfl, rfl, rfl, rfl⟩ := hq
    refine w_X8_tells_43 (fun q2 => bad a5 a6 (v12 (fun z => if1.1 q2 z.1) w12)) (fun q2 => w_X8_tells_46 (sIsThing (d := d + 3) hL h12) (fun z I1 L1 R1 hq => ?_))
    obtain ⟨rfl, rfl, rfl, rfl⟩ := hq
    exact w_X8_tells_51 (fun q3 => bad a5 a6 (v12 (fun z => if1.1 q3 z.2) w12)) (fun q3 => p54 a5 a6 (fun _ => ⟨if1.2 q2, if1.2 q3⟩) c6)
  have p15 : ∀ (a5 : Int32), (a5 = 0 ↔ ¬ (w = 1 ∨ w = 2)) → wkB l G (d + 4 + 1) n_X8_tells Q 15 [.ref 0, .int w, .int x, .int y, .int m, wkU, wkU, wkU] [.int a5] I L R := fun a5 c5 => by
    have t1 : w = 2 ∨ w = 3 → ((1 : Int32) = 0 ↔ ¬ (w = 2 ∨ w = 3)) := fun z => ⟨fun q => absurd q (by decide), fun q => absurd z q⟩
    refine w_X8_tells_15 (fun q => w_X8_tells_27 (p32 a5 1 c5 (t1 (Or.inl q)))) (fun q => w_X8_tells_22 (fun q2 => w_X8_tells_31 (p32 a5 0 c5 ⟨fun _ z => ?_, fun _ => rfl⟩)) (fun q2 => w_X8_tells_27 (p32 a5 1 c5 (t1 (Or.inr q2)))))
    rcases z with z | z
    · exact q z
    · exact q2 z
  refine wkC_of 3 (by decide) (Nat.le_of_ble_eq_true rfl) (w_X8_tells_0 (fun q => w_X8_tells_10 (p15 1 ⟨fun z => absurd z (by decide), fun z => absurd (Or.inl q) z⟩)) (fun q => w_X8_tells_5 (fun q2 => w_X8_tells_14 (p15 0 ⟨fun _ z => ?_, fun _ => rfl⟩)) (fun q2 => w_X8_tells_10 (p15 1 ⟨fun z => absurd z (by decide), fun z => absurd (Or.inr q2) z⟩))))
  rcases z with z | z
  · exact q z
  · exact q2 z
theorem sSight (hs : cS o A f n h sl I R) {x y m : Int32} : wkCi l G (d + 6) n_X8_sight [.ref 0, .int x, .int y, .int m] I L R (fun z I' L' R' => R' = R ∧ L' = L ∧ z = qSight A f x y m ∧ cS o A f n h sl I' R') := by
  obtain ⟨⟨hL, hR, h12⟩, s1, s2, s3⟩ := id hs
  have ho := hL.1
  have r2 := hR.1.1
  have e0 : I 21 0 = f 96 := sEq_at s1 (by omega) sI0
  have bad : ¬ (okX x ∧ okT A y ∧ okH m) → wkB l G (d + 5 + 1) n_X8_sight (fun r t I' L' R' => t = 336 ∧ ∃ z, r = some (.int z) ∧ R' = R ∧ L' = L ∧ z = qSight A f x y m ∧ cS o A f n h sl I' R') 22 [.ref 0, .int x, .int y, .int m, wkU, wkU] [] I L R := fun c => w_X8_sight_22 ⟨rfl, _, rfl, rfl, rfl, by unfold qSight; rw [if_pos c], hs⟩
  refine wkC_of 2 (by decide) (Nat.le_of_ble_eq_true rfl) (w_X8_sight_0 (sIsX (d := d + 4)) (fun z I1 L1 R1 hq => ?_))
  obtain ⟨rfl, rfl, rfl, rfl⟩ := hq
  refine w_X8_sight_4 (fun q => bad (fun c => if1.1 q c.1)) (fun q => w_X8_sight_7 (sIsThing (d := d + 4) hL h12) (fun z I1 L1 R1 hq => ?_))
  obtain ⟨rfl, rfl, rfl, rfl⟩ := hq
  refine w_X8_sight_12 (fun q2 => bad (fun c => if1.1 q2 c.2.1)) (fun q2 => w_X8_sight_15 (sIsAhead (d := d + 4)) (fun z I1 L1 R1 hq => ?_))
  obtain ⟨rfl, rfl, rfl, rfl⟩ := hq
  refine w_X8_sight_19 (fun q3 => ?_) (fun q3 => bad (fun c => if1.1 q3 c.2.2))
  have c0 : okX x ∧ okT A y ∧ okH m := ⟨if1.2 q, if1.2 q2, if1.2 q3⟩
  have y0 := c0.2.1
  have hy : y.toInt = y.toInt.toNat := by omega
  refine w_X8_sight_24 ho r2 h12 h12 (sHeat (d := d + 1) hL) (fun z I2 L2 R2 hq => ?_)
  obtain ⟨rfl, rfl, f2, rfl⟩ := hq
  have hs2 := cS_q hs f2
  refine w_X8_sight_52 ho (sSpotFrom (d := d) hs2.1.1 hy (by omega)) (fun z I3 L3 R3 hq => ?_)
  obtain ⟨rfl, rfl, f3, rfl⟩ := hq
  have hs3 := cS_q hs2 f3
  rw [e0]
  refine w_X8_sight_55 (fun q4 => w_X8_sight_68 (w_X8_sight_70 ⟨rfl, _, rfl, rfl, rfl, ?_, hs3⟩)) (fun q4 => w_X8_sight_63 (w_X8_sight_70 ⟨rfl, _, rfl, rfl, rfl, ?_, hs3⟩))
  · unfold qSight pSight
    rw [if_neg (fun z => z c0), if_neg q4]
  · unfold qSight pSight
    rw [if_neg (fun z => z c0), if_pos q4]
end
