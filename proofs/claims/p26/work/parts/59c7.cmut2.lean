/-! ===== the class: call, move, hours, undo, hold, restore ===== -/
section
variable {l : Launch} {G : qG} {d : Nat} {I : qMI} {L : qML} {R : qMR} {o n : Nat} {A : aD} {f : Nat → Int32} {h sl : Nat → Nat → Int32}
theorem sCall (hs : cS o A f n h sl I R) {x y : Int32} : wkCi l G (d + 6) n_X8_call [.ref 0, .int x, .int y] I L R (fun z I' L' R' => R' = R ∧ L' = L ∧ z = (pCall A f x y).1 ∧ cS2 o A f n h sl I' R' (pCall A f x y).2) := by
  obtain ⟨⟨hL, hR, h12⟩, s1, s2, s3⟩ := id hs
  obtain ⟨⟨r2, -, r4, -⟩, -, -, -, rB⟩ := id hR
  have rb := rB 21 bNow
  obtain ⟨⟨-, hn1⟩, -, hn2⟩ := cHas_n hL
  refine wkC_of 2 (by decide) (Nat.le_of_ble_eq_true rfl) (w_X8_call_0 (sIsPair (d := d + 3) hL h12) (fun z I1 L1 R1 hq => ?_))
  obtain ⟨rfl, rfl, rfl, rfl⟩ := hq
  refine w_X8_call_6 (fun q => ?_) (fun q => w_X8_call_9 ⟨rfl, _, rfl, rfl, rfl, by unfold pCall; rw [if_pos (if1.1 q)], by unfold pCall; rw [if_pos (if1.1 q)]; exact hs⟩)
  have pr := if1.2 q
  have c0 := pr
  obtain ⟨⟨x0, x1⟩, y0, y1⟩ := pr
  have ha : x.toInt = x.toInt.toNat := by omega
  have he : y.toInt = y.toInt.toNat := by omega
  generalize hga : x.toInt.toNat = a at ha
  generalize hge : y.toInt.toNat = e at he
  have la := loan_t ha he (by omega) (by omega)
  have ca : (x * 6 + y).toNatClampNeg = 6 * a + e := by rw [tcn]; omega
  have cx : x.toNatClampNeg = a := by rw [tcn]; omega
  have vx : vp_in x 6 := vin (by omega) (by omega)
  have v36 : vp_in (x * 6 + y) 36 := vin (by omega) (by omega)
  have ec : I1 23 a = f (6 + a) := sEq_at s1 (by omega) (sI2 (by omega))
  have el : I1 26 (6 * a + e) = f (24 + (6 * a + e)) := sEq_at s1 (by omega) (sI5 (by omega))
  have low : ∀ J : qMI, cQ o I1 J → (f (24 + (6 * a + e)) = 0 ∨ 99999 < f (6 + a) + f (24 + (6 * a + e)) ∨ ¬ pSn A f a e) → wkB l G (d + 5 + 1) n_X8_call (fun r t I' L' R' => t = 336 ∧ ∃ z, r = some (.int z) ∧ R' = R1 ∧ L' = L1 ∧ z = (pCall A f x y).1 ∧ cS2 o A f n h sl I' R' (pCall A f x y).2) 59 [.ref 0, .int x, .int y, .int (x * 6 + y), .int (f (24 + (6 * a + e)))] [] J L1 R1 := fun J j c => by
    have ev : pCall A f x y = (-2, none) := by
      unfold pCall lnI
      rw [if_neg (fun z => z c0), hga, hge, if_pos c]
    exact w_X8_call_59 ⟨rfl, _, rfl, rfl, rfl, by rw [ev], by rw [ev]; exact cS_q hs j⟩
  refine w_X8_call_11 (sLoanOf (d := d + 4)) (fun z I1 L1 R1 hq => ?_)
  obtain ⟨rfl, rfl, rfl, rfl⟩ := hq
  refine w_X8_call_16 r2 (rb 5 (by decide) (by decide)) v36 (fun q4 => ?_) (fun q4 => ?_)
  · rw [ca, el] at q4 ⊢
    exact low _ (cQ_rf o _) (Or.inl q4)
  rw [ca, el] at q4 ⊢
  refine w_X8_call_33 r2 (rb 2 (by decide) (by decide)) vx (fun q5 => low _ (cQ_rf o _) (Or.inr (Or.inl ?_))) (fun q5 => ?_)
  · rw [cx, ec] at q5
    exact q5
  rw [cx, ec] at q5
  refine w_X8_call_50 (sSeesNow (d := d) hs ha he (by omega) (by omega)) (fun z I3 L3 R3 hq => ?_)
  obtain ⟨rfl, rfl, f3, rfl⟩ := hq
  refine w_X8_call_56 (fun q6 => ?_) (fun q6 => low _ f3 (Or.inr (Or.inr (if1.1 q6))))
  have hs3 := cS_q hs f3
  refine w_X8_call_62 r4 r2 (sPush (d := d + 3) hR hs3.2.1 hs3.2.2.1) (fun I4 L4 R4 hq => ?_)
  obtain ⟨rfl, rfl, f4, p4⟩ := hq
  have hs4 := cS_push hs3 f4 p4
  have ec4 : I4 23 a = f (6 + a) := sEq_at hs4.2.1 (by omega) (sI2 (by omega))
  have ev : pCall A f x y = (f (24 + (6 * a + e)), some (tU (tU (tU f (6 + a) (f (6 + a) + f (24 + (6 * a + e)))) (24 + (6 * a + e)) 0) (60 + (6 * a + e)) 0)) := by
    unfold pCall lnI
    rw [if_neg (fun z => z c0), hga, hge, if_neg (fun z => by
      rcases z with z | z | z
      · exact q4 z
      · exact q5 z
      · exact z (if1.2 q6))]
  refine w_X8_call_73 r2 (rb 2 (by decide) (by decide)) vx vx r2 (sEnd (d := d + 4) (n := 6 * a + e) rb bNow (by omega) (by omega)) (fun I5 L5 R5 hq => ?_)
  obtain ⟨rfl, rfl, rfl⟩ := hq
  refine w_X8_call_95 ⟨rfl, _, rfl, rfl, rfl, by rw [ev], ?_⟩
  rw [ev, cx, ec4]
  exact cS_now hs4 (fun k p _ _ => by rw [qUp_ro (by omega), qUp_ro (by omega), qUp_ro (by omega)]) (sEq_up (b := 21) (sEq_up (b := 21) (sEq_up (b := 21) hs4.2.1 (k := 6 + a) (by omega) (sI2 (by omega))) (k := 24 + (6 * a + e)) (by omega) (sI5 (by omega))) (k := 60 + (6 * a + e)) (by omega) (sI6 (by omega)))
theorem sMove (hs : cS o A f n h sl I R) {x y : Int32} : wkCi l G (d + 6) n_X8_move [.ref 0, .int x, .int y] I L R (fun z I' L' R' => R' = R ∧ L' = L ∧ z = (pMove A f x y).1 ∧ cS2 o A f n h sl I' R' (pMove A f x y).2) := by
  obtain ⟨⟨hL, hR, h12⟩, s1, s2, s3⟩ := id hs
  obtain ⟨⟨r2, -, r4, -⟩, -, -, -, rB⟩ := id hR
  have rb := rB 21 bNow
  have hn2 := (cHas_n hL).2.2
  have no : (¬ (okS A x ∧ okX y) ∨ f x.toInt.toNat = y) → wkB l G (d + 5 + 1) n_X8_move (fun r t I' L' R' => t = 336 ∧ ∃ z, r = some (.int z) ∧ R' = R ∧ L' = L ∧ z = (pMove A f x y).1 ∧ cS2 o A f n h sl I' R' (pMove A f x y).2) 28 [.ref 0, .int x, .int y] [] I L R := fun c => w_X8_move_28 ⟨rfl, _, rfl, rfl, rfl, by unfold pMove; rw [if_pos c], by unfold pMove; rw [if_pos c]; exact hs⟩
  refine wkC_of 0 (by decide) (Nat.le_of_ble_eq_true rfl) (w_X8_move_0 (sIsSeat (d := d + 4) hL h12) (fun z I1 L1 R1 hq => ?_))
  obtain ⟨rfl, rfl, rfl, rfl⟩ := hq
  refine w_X8_move_5 (fun q => no (Or.inl (fun c => if1.1 q c.1))) (fun q => w_X8_move_8 (sIsX (d := d + 4)) (fun z I1 L1 R1 hq => ?_))
  obtain ⟨rfl, rfl, rfl, rfl⟩ := hq
  refine w_X8_move_12 (fun q2 => no (Or.inl (fun c => if1.1 q2 c.2))) (fun q2 => ?_)
  have c0 := if1.2 q
  have c1 := if1.2 q2
  have x0 := c0.1
  have x1 := c0.2
  have cx : x.toNatClampNeg = x.toInt.toNat := tcn x
  have vx : vp_in x 6 := vin (by omega) (by omega)
  have ex : I1 22 x.toInt.toNat = f x.toInt.toNat := sEq_at s1 (by omega) (sI1 (by omega))
  refine w_X8_move_15 r2 (rb 1 (by decide) (by decide)) vx (fun q3 => ?_) (fun q3 => no (Or.inr ?_))
  · rw [cx, ex] at q3
    refine w_X8_move_30 r4 r2 (sPush (d := d + 3) hR s1 s2) (fun I4 L4 R4 hq => ?_)
    obtain ⟨rfl, rfl, f4, p4⟩ := hq
    have hs4 := cS_push hs f4 p4
    have ev : pMove A f x y = (1, some (tU f x.toInt.toNat y)) := by
      unfold pMove
      rw [if_neg (fun z => by
        rcases z with z | z
        · exact z ⟨c0, c1⟩
        · exact q3 z)]
    refine w_X8_move_41 r2 (rb 1 (by decide) (by decide)) vx ⟨rfl, _, rfl, rfl, rfl, by rw [ev], ?_⟩
    rw [ev, cx]
    exact cS_now hs4 (fun k p _ _ => by rw [qUp_ro (by omega)]) (sEq_up (b := 21) hs4.2.1 (k := x.toInt.toNat) (by omega) (sI1 (by omega)))
  · rw [cx, ex] at q3
    exact q3
theorem sHours (hs : cS o A f n h sl I R) {x : Int32} : wkCi l G (d + 6) n_X8_hours [.ref 0, .int x] I L R (fun z I' L' R' => R' = R ∧ L' = L ∧ z = (pHours A f x).1 ∧ cS2 o A f n h sl I' R' (pHours A f x).2) := by
  obtain ⟨⟨hL, hR, h12⟩, s1, s2, s3⟩ := id hs
  obtain ⟨⟨r2, -, r4, -⟩, -, -, -, rB⟩ := id hR
  have rb := rB 21 bNow
  refine wkC_of 0 (by decide) (Nat.le_of_ble_eq_true rfl) (w_X8_hours_0 (sIsAhead (d := d + 4)) (fun z I1 L1 R1 hq => ?_))
  obtain ⟨rfl, rfl, rfl, rfl⟩ := hq
  refine w_X8_hours_4 (fun q => ?_) (fun q => w_X8_hours_7 ⟨rfl, _, rfl, rfl, rfl, by unfold pHours; rw [if_pos (if1.1 q)], by unfold pHours; rw [if_pos (if1.1 q)]; exact hs⟩)
  have c0 := if1.2 q
  refine w_X8_hours_9 (fun q2 => ?_) (fun q2 => ?_)
  · have q2 := i_le.mp q2
    rw [show (0 : Int32).toInt = 0 from rfl] at q2
    have ev : pHours A f x = (f 96, none) := by
      unfold pHours
      rw [if_neg (fun z => z c0), if_pos q2]
    exact w_X8_hours_50 r2 ⟨rfl, _, rfl, rfl, rfl, by rw [ev]; exact sEq_at s1 (by omega) sI0, by rw [ev]; exact hs⟩
  · have q2 := nle q2
    rw [show (0 : Int32).toInt = 0 from rfl] at q2
    have ev : pHours A f x = ((sGo A (A.2.2.1 11) (A.2.2.1 9) x.toInt.toNat f) 96, some (sGo A (A.2.2.1 11) (A.2.2.1 9) x.toInt.toNat f)) := by
      unfold pHours
      rw [if_neg (fun z => z c0), if_neg q2]
    refine w_X8_hours_13 r4 r2 (sPush (d := d + 3) hR s1 s2) (fun I4 L4 R4 hq => ?_)
    obtain ⟨rfl, rfl, f4, p4⟩ := hq
    have hs4 := cS_push hs f4 p4
    have hL4 := hs4.1.1
    have hD := hL4.2.2.2.2.1.2.2.1
    refine w_X8_hours_24 hL.1 h12 r2 h12 h12 (sPass (d := d) (n := x.toInt.toNat) hL4 rb bNow hs4.2.1 (by omega)) (fun I5 L5 R5 hq => ?_)
    obtain ⟨rfl, rfl, f5, s5⟩ := hq
    rw [hD 11 (by decide) (by decide), hD 9 (by decide) (by decide)] at s5
    refine w_X8_hours_50 r2 ⟨rfl, _, rfl, rfl, rfl, by rw [ev]; exact sEq_at s5 (by omega) sI0, ?_⟩
    rw [ev]
    exact cS_now hs4 (fun k p a b => f5 k (by omega) a b) s5
theorem sUndo (hs : cS o A f n h sl I R) : wkCi l G (d + 3) n_X8_undo [.ref 0] I L R (fun z I' L' R' => R' = R ∧ L' = L ∧ ((n = 0 ∧ z = 0 ∧ cS o A f n h sl I' R') ∨ (0 < n ∧ z = 1 ∧ cS o A (h (n - 1)) (n - 1) h sl I' R'))) := by
  obtain ⟨⟨hL, hR, h12⟩, s1, s2, s3⟩ := id hs
  obtain ⟨⟨r2, -, r4, -⟩, -, -, -, rB⟩ := id hR
  have ho := hL.1
  refine wkC_of 0 (by decide) (Nat.le_of_ble_eq_true rfl) (w_X8_undo_0 r4 r2 (sPop (d := d) hR s2) (fun z I1 L1 R1 hq => ?_))
  obtain ⟨rfl, rfl, f1, ⟨n0, rfl, rfl⟩ | ⟨n0, rfl, e1, p1⟩⟩ := hq
  · exact w_X8_undo_11 ⟨rfl, _, rfl, rfl, rfl, Or.inl ⟨n0, rfl, hs⟩⟩ (Or.inl rfl)
  · refine w_X8_undo_11 ⟨rfl, _, rfl, rfl, rfl, Or.inr ⟨n0, rfl, ?_⟩⟩ (Or.inr rfl)
    exact ⟨⟨cHas_fr (fun k a b => f1 k (by omega) (by omega)) hL, hR, h12⟩, e1, p1, fun i hi => sEq_of (s3.1 i hi) (fun k a b => f1 k (by omega) (by omega)), cK_of s3.2 (fun k a => f1 k (by omega) (by omega))⟩
theorem bool1 : vp_nar .boolean 1 = 1 := by decide
def hSl (x : Int32) (f : Nat → Int32) (sl : Nat → Nat → Int32) (I' : qMI) (i : Nat) : Nat → Int32 := if i = x.toInt.toNat then f else if i = 348 then I' 248 else sl i
theorem sHold (hs : cS o A f n h sl I R) {x : Int32} : wkCi l G (d + 2) n_X8_hold [.ref 0, .int x] I L R (fun z I' L' R' => R' = R ∧ L' = L ∧ ((¬ (0 ≤ x.toInt ∧ x.toInt < 3) ∧ z = 0 ∧ I' = I) ∨ ((0 ≤ x.toInt ∧ x.toInt < 3) ∧ z = 1 ∧ I' 248 = tU (I 248) x.toInt.toNat 1 ∧ cS o A f n h (hSl x f sl I') I' R'))) := by
  obtain ⟨⟨hL, hR, h12⟩, s1, s2, s3⟩ := id hs
  obtain ⟨⟨r2, -, r4, r5, r6, -⟩, -, -, rS, rB⟩ := id hR
  have ho := hL.1
  refine wkC_of 0 (by decide) (Nat.le_of_ble_eq_true rfl) (w_X8_hold_0 (fun q => w_X8_hold_9 ⟨rfl, _, rfl, rfl, rfl, Or.inl ⟨fun c => ?_, rfl, rfl⟩⟩) (fun q => w_X8_hold_4 (fun q2 => ?_) (fun q2 => w_X8_hold_9 ⟨rfl, _, rfl, rfl, rfl, Or.inl ⟨fun c => ?_, rfl, rfl⟩⟩)))
  · have q := i_lt.mp q
    rw [show (0 : Int32).toInt = 0 from rfl] at q
    omega
  · have q := nlt q
    rw [show (0 : Int32).toInt = 0 from rfl] at q
    have q2 := i_lt.mp q2
    rw [show (3 : Int32).toInt = 3 from rfl] at q2
    have cx : x.toNatClampNeg = x.toInt.toNat := tcn x
    have vx : vp_in x 3 := vin (by omega) (by omega)
    have hi : x.toInt.toNat < 3 := by omega
    have hb := bSlot hi
    refine w_X8_hold_11 hb r5 vx (by rw [cx]; exact rS _ hi) r2 (sCopy (d := d) hb bNow (rB _ hb) (rB _ bNow)) (fun I1 L1 R1 hq => ?_)
    obtain ⟨rfl, rfl, rfl⟩ := hq
    have hd : 271 + 7 * x.toInt.toNat + 6 < 21 ∨ 21 + 6 < 271 + 7 * x.toInt.toNat := by omega
    refine w_X8_hold_24 r6 vx ⟨rfl, _, rfl, rfl, rfl, Or.inr ⟨⟨by omega, q2⟩, rfl, ?_, ?_⟩⟩
    · rw [qUp_row, cpM_fr (by omega), cx, bool1]
    have fr : ∀ k, k ≠ 248 → (k < 271 + 7 * x.toInt.toNat ∨ 271 + 7 * x.toInt.toNat + 6 < k) → (qUp (cpM I (271 + 7 * x.toInt.toNat) 21) 248 x.toNatClampNeg (vp_nar .boolean 1)) k = I k := fun k a b => by rw [qUp_ro a, cpM_fr b]
    refine ⟨⟨cHas_fr (fun k a b => fr k (by omega) (by omega)) hL, hR, h12⟩, sEq_of s1 (fun k a b => fr k (by omega) (by omega)), pEq_of s2 (fun k a b => fr k (by omega) (by omega)), fun i hi2 => ?_, fun k a j => ?_⟩
    · unfold hSl
      by_cases c : i = x.toInt.toNat
      · rw [if_pos c, c]
        exact sEq_of (cpM_eq hd s1) (fun k a b => qUp_ro (by omega))
      · rw [if_neg c, if_neg (by omega)]
        exact sEq_of (s3.1 i hi2) (fun k a b => fr k (by omega) (by omega))
    · unfold hSl
      rw [if_neg (by omega)]
      by_cases c : k = 248
      · rw [if_pos (by omega), c]
      · rw [if_neg (by omega), fr k c (by omega)]
        exact s3.2 k a j
  · have q2 := nlt q2
    rw [show (3 : Int32).toInt = 3 from rfl] at q2
    omega
theorem sRestore (hs : cS o A f n h sl I R) {x : Int32} : wkCi l G (d + 2) n_X8_restore [.ref 0, .int x] I L R (fun z I' L' R' => R' = R ∧ L' = L ∧ ((¬ ((0 ≤ x.toInt ∧ x.toInt < 3) ∧ ¬ I 248 x.toInt.toNat = 0) ∧ z = 0 ∧ I' = I) ∨ (((0 ≤ x.toInt ∧ x.toInt < 3) ∧ ¬ I 248 x.toInt.toNat = 0) ∧ z = 1 ∧ cS o A (sl x.toInt.toNat) 0 h sl I' R'))) := by
  obtain ⟨⟨hL, hR, h12⟩, s1, s2, s3⟩ := id hs
  obtain ⟨⟨r2, -, r4, r5, r6, -⟩, -, -, rS, rB⟩ := id hR
  have ho := hL.1
  have cx : x.toNatClampNeg = x.toInt.toNat := tcn x
  refine wkC_of 0 (by decide) (Nat.le_of_ble_eq_true rfl) (w_X8_restore_0 (fun q => w_X8_restore_18 ⟨rfl, _, rfl, rfl, rfl, Or.inl ⟨fun c => ?_, rfl, rfl⟩⟩) (fun q => w_X8_restore_4 (fun q2 => w_X8_restore_18 ⟨rfl, _, rfl, rfl, rfl, Or.inl ⟨fun c => ?_, rfl, rfl⟩⟩) (fun q2 => ?_)))
  · have q := i_lt.mp q
    rw [show (0 : Int32).toInt = 0 from rfl] at q
    omega
  · have q2 := i_le.mp q2
    rw [show (3 : Int32).toInt = 3 from rfl] at q2
    omega
  · have q := nlt q
    rw [show (0 : Int32).toInt = 0 from rfl] at q
    have q2 := nle q2
    rw [show (3 : Int32).toInt = 3 from rfl] at q2
    have vx : vp_in x 3 := vin (by omega) (by omega)
    have hi : x.toInt.toNat < 3 := by omega
    have hb := bSlot hi
    refine w_X8_restore_9 r6 vx (fun q3 => ?_) (fun q3 => w_X8_restore_18 ⟨rfl, _, rfl, rfl, rfl, Or.inl ⟨fun c => ?_, rfl, rfl⟩⟩)
    · rw [cx] at q3
      refine w_X8_restore_20 hb r2 r5 vx (by rw [cx]; exact rS _ hi) (sCopy (d := d) bNow hb (rB _ bNow) (rB _ hb)) (fun I1 L1 R1 hq => ?_)
      obtain ⟨rfl, rfl, rfl⟩ := hq
      have hd : 21 + 6 < 271 + 7 * x.toInt.toNat ∨ 271 + 7 * x.toInt.toNat + 6 < 21 := by omega
      refine w_X8_restore_33 r4 (sClear (d := d)) (fun I2 L2 R2 hq => ?_)
      obtain ⟨rfl, rfl, rfl⟩ := hq
      refine w_X8_restore_40 ⟨rfl, _, rfl, rfl, rfl, Or.inr ⟨⟨⟨by omega, by omega⟩, q3⟩, rfl, ?_⟩⟩
      have fr : ∀ k, k ≠ 35 → (k < 21 ∨ 27 < k) → (qUp (cpM I 21 (271 + 7 * x.toInt.toNat)) 35 2 0) k = I k := fun k a b => by rw [qUp_ro a, cpM_fr b]
      refine ⟨⟨cHas_fr (fun k a b => fr k (by omega) (by omega)) hL, hR, h12⟩, sEq_of (cpM_eq hd (s3.1 _ hi)) (fun k a b => qUp_ro (by omega)), pEq_0 (pEq_of s2 (fun k a b => cpM_fr (by omega))), fun i hi2 => sEq_of (s3.1 i hi2) (fun k a b => fr k (by omega) (by omega)), cK_of s3.2 (fun k a => fr k (by omega) (by omega))⟩
    · rw [cx] at q3
      exact c.2 q3
end
