/-! ===== the class's queries ===== -/
section
variable {l : Launch} {G : qG} {d : Nat} {I : qMI} {L : qML} {R : qMR} {o n : Nat} {A : aD} {f : Nat → Int32} {h sl : Nat → Nat → Int32}
theorem sThSeenL (hL : cHas o I R A) {Q : qQ} {x hr w : Int32} : ∀ (m e : Nat) (y acc : Int32) (J : qMI), e + m = A.1.length → y.toInt = e → cQ o I J → (∀ J' : qMI, cQ o I J' → Q (some (.int (qB (fun e => decide (pSe A hr w x (tX A e) (tT A e))) m e y acc))) 336 J' L R) → wkB l G (d + 4 + 1) n_X0_thingsSeenFrom Q 6 [.ref o, .int x, .int hr, .int w, .int acc, .int y] [] J L R := by
  have ho := hL.1
  intro m
  induction m with
  | zero =>
    intro e y acc J hn hy hJ k
    have hn2 := (cHas_n (cHas_q hJ hL)).1.1
    exact w_X0_thingsSeenFrom_6 ho (fun _ => w_X0_thingsSeenFrom_42 ho (k J hJ)) (fun q => absurd (i_le.mpr (by omega)) q)
  | succ m ih =>
    intro e y acc J hn hy hJ k
    have hLJ := cHas_q hJ hL
    have hn2 := (cHas_n hLJ).1
    refine w_X0_thingsSeenFrom_6 ho (fun q => absurd (i_le.mp q) (by omega)) (fun _ => w_X0_thingsSeenFrom_15 ho (sSeenFrom (d := d) hLJ hy (by omega)) (fun z I1 L1 R1 hq => ?_))
    obtain ⟨rfl, rfl, f1, rfl⟩ := hq
    have y1 : (y + 1).toInt = ((e + 1 : Nat) : Int) := by rw [i_s (by omega)]; omega
    refine w_X0_thingsSeenFrom_24 ho (fun q => w_X0_thingsSeenFrom_36 ho (ih (e + 1) _ _ _ (by omega) y1 (cQ_tr hJ f1) (fun J' j => ?_))) (fun q => w_X0_thingsSeenFrom_27 ho (w_X0_thingsSeenFrom_36 ho (ih (e + 1) _ _ _ (by omega) y1 (cQ_tr hJ f1) (fun J' j => ?_))))
    · have := k J' j
      rw [qB_f (by exact decide_eq_false (if1.1 q))] at this
      exact this
    · have := k J' j
      rw [qB_t (by exact decide_eq_true (if1.2 q))] at this
      exact this
theorem sThSeen (hL : cHas o I R A) {x hr w : Int32} : wkCi l G (d + 5) n_X0_thingsSeenFrom [.ref o, .int x, .int hr, .int w] I L R (fun z I' L' R' => R' = R ∧ L' = L ∧ cQ o I I' ∧ z = qSeesT A hr w x) :=
  wkC_of 2 (by decide) (Nat.le_of_ble_eq_true rfl) (w_X0_thingsSeenFrom_0 hL.1 (sThSeenL (d := d) hL A.1.length 0 0 0 I (by omega) rfl (cQ_rf o I) (fun J' j => ⟨rfl, _, rfl, rfl, rfl, j, rfl⟩)))
theorem sThSeenM (hs : cS o A f n h sl I R) {x w : Int32} : wkCi l G (d + 6) n_X8_thingsSeenFrom [.ref 0, .int x, .int w] I L R (fun z I' L' R' => R' = R ∧ L' = L ∧ cQ o I I' ∧ z = qSeesT A (f 96) w x) := by
  obtain ⟨⟨hL, hR, h12⟩, s1, -, -⟩ := hs
  refine wkC_of 0 (by decide) (Nat.le_of_ble_eq_true rfl) (w_X8_thingsSeenFrom_0 hL.1 h12 hR.1.1 (sThSeen (d := d) hL) (fun z I1 L1 R1 hq => ?_))
  obtain ⟨rfl, rfl, f1, rfl⟩ := hq
  exact w_X8_thingsSeenFrom_16 ⟨rfl, _, rfl, rfl, rfl, f1, by rw [show I 21 0 = f 96 from sEq_at s1 (by omega) sI0]⟩
theorem sLentOnL (hs : cS o A f n h sl I R) {Q : qQ} {x : Int32} {a : Nat} (ha : x.toInt = a) (hA : a < A.2.1.length) : ∀ (m e : Nat) (y acc : Int32), e + m = A.1.length → y.toInt = e → Q (some (.int (qB (fun e => decide (¬ f (24 + (6 * a + e)) = 0)) m e y acc))) 336 I L R → wkB l G (d + 1 + 1) n_X8_thingsLentOn Q 4 [.ref 0, .int x, .int acc, .int y] [] I L R := by
  obtain ⟨⟨hL, hR, h12⟩, s1, -, -⟩ := hs
  have ho := hL.1
  obtain ⟨⟨hn1, hn3⟩, -, hn2⟩ := cHas_n hL
  intro m
  induction m with
  | zero =>
    intro e y acc hn hy k
    exact w_X8_thingsLentOn_4 ho h12 (fun _ => w_X8_thingsLentOn_43 k) (fun q => absurd (i_le.mpr (by omega)) q)
  | succ m ih =>
    intro e y acc hn hy k
    have y1 : (y + 1).toInt = ((e + 1 : Nat) : Int) := by rw [i_s (by omega)]; omega
    have la := loan_t ha hy (by omega) (by omega)
    have ca : (x * 6 + y).toNatClampNeg = 6 * a + e := by rw [tcn]; omega
    have el : I 26 (6 * a + e) = f (24 + (6 * a + e)) := sEq_at s1 (by omega) (sI5 (by omega))
    refine w_X8_thingsLentOn_4 ho h12 (fun q => absurd (i_le.mp q) (by omega)) (fun _ => w_X8_thingsLentOn_15 hR.1.1 (hR.2.2.2.2 21 bNow 5 (by decide) (by decide)) (sLoanOf (d := d)) (fun z I1 L1 R1 hq => ?_))
    obtain ⟨rfl, rfl, rfl, rfl⟩ := hq
    refine w_X8_thingsLentOn_27 (vin (by omega) (by omega)) (fun q => w_X8_thingsLentOn_37 (ih (e + 1) _ _ (by omega) y1 ?_)) (fun q => w_X8_thingsLentOn_31 (w_X8_thingsLentOn_37 (ih (e + 1) _ _ (by omega) y1 ?_)))
    · rw [ca, el] at q
      rw [qB_f (by exact decide_eq_false (fun z => z q))] at k
      exact k
    · rw [ca, el] at q
      rw [qB_t (by exact decide_eq_true q)] at k
      exact k
theorem sLentOn (hs : cS o A f n h sl I R) {x : Int32} {a : Nat} (ha : x.toInt = a) (hA : a < A.2.1.length) : wkCi l G (d + 2) n_X8_thingsLentOn [.ref 0, .int x] I L R (fun z I' L' R' => R' = R ∧ L' = L ∧ I' = I ∧ z = qLentOn A f a) :=
  wkC_of 2 (by decide) (Nat.le_of_ble_eq_true rfl) (w_X8_thingsLentOn_0 (sLentOnL (d := d) hs ha hA A.1.length 0 0 0 (by omega) rfl ⟨rfl, _, rfl, rfl, rfl, rfl, rfl⟩))
theorem sLentByL (hB : cSt R 21) (s1 : sEq I 21 f) {Q : qQ} {x : Int32} {a : Nat} (ha : x.toInt = a) (hA : a < 6) : ∀ (m e : Nat) (y acc : Int32), e + m = 6 → y.toInt = e → Q (some (.int (qS (fun e => f (24 + (6 * a + e))) m e acc))) 336 I L R → wkB l G (d + 1 + 1) n_X4_lentBy Q 4 [.ref 21, .int x, .int acc, .int y] [] I L R := by
  intro m
  induction m with
  | zero =>
    intro e y acc hn hy k
    exact w_X4_lentBy_4 bNow (fun _ => w_X4_lentBy_29 bNow k) (fun q => absurd (i_le.mpr (by rw [show (6 : Int32).toInt = 6 from rfl]; omega)) q)
  | succ m ih =>
    intro e y acc hn hy k
    have y1 : (y + 1).toInt = ((e + 1 : Nat) : Int) := by rw [i_s (by omega)]; omega
    have la := loan_t ha hy (by omega) (by omega)
    have ca : (x * 6 + y).toNatClampNeg = 6 * a + e := by rw [tcn]; omega
    have el : I 26 (6 * a + e) = f (24 + (6 * a + e)) := sEq_at s1 (by omega) (sI5 (by omega))
    refine w_X4_lentBy_4 bNow (fun q => absurd (i_le.mp q) (by rw [show (6 : Int32).toInt = 6 from rfl]; omega)) (fun _ => w_X4_lentBy_10 bNow (hB 5 (by decide) (by decide)) (sLoanOf (d := d)) (fun z I1 L1 R1 hq => ?_))
    obtain ⟨rfl, rfl, rfl, rfl⟩ := hq
    refine w_X4_lentBy_20 bNow (vin (by omega) (by omega)) (ih (e + 1) _ _ (by omega) y1 ?_)
    rw [ca, show I1 (21 + 5) (6 * a + e) = f (24 + (6 * a + e)) from el]
    exact k
theorem sLentBy (hs : cS o A f n h sl I R) {x : Int32} {a : Nat} (ha : x.toInt = a) (hA : a < A.2.1.length) : wkCi l G (d + 2) n_X4_lentBy [.ref 21, .int x] I L R (fun z I' L' R' => R' = R ∧ L' = L ∧ I' = I ∧ z = qLentBy f a) := by
  obtain ⟨⟨hL, hR, h12⟩, s1, -, -⟩ := hs
  have hn := (cHas_n hL).2.2
  exact wkC_of 2 (by decide) (Nat.le_of_ble_eq_true rfl) (w_X4_lentBy_0 bNow (sLentByL (d := d) (hR.2.2.2.2 21 bNow) s1 ha (by omega) 6 0 0 0 (by omega) rfl ⟨rfl, _, rfl, rfl, rfl, rfl, rfl⟩))
theorem sLoan (hs : cS o A f n h sl I R) {x y w : Int32} : wkCi l G (d + 3) n_X8_loan [.ref 0, .int x, .int y, .int w] I L R (fun z I' L' R' => R' = R ∧ L' = L ∧ z = qLoan A f x y w ∧ cS o A f n h sl I' R') := by
  obtain ⟨⟨hL, hR, h12⟩, s1, s2, s3⟩ := id hs
  have r2 := hR.1.1
  have rb := hR.2.2.2.2 21 bNow
  obtain ⟨⟨-, hn1⟩, -, hn2⟩ := cHas_n hL
  refine wkC_of 1 (by decide) (Nat.le_of_ble_eq_true rfl) (w_X8_loan_0 (sIsPair (d := d) hL h12) (fun z I1 L1 R1 hq => ?_))
  obtain ⟨rfl, rfl, rfl, rfl⟩ := hq
  have bad : ¬ (okS A x ∧ okT A y ∧ 0 ≤ w.toInt ∧ w.toInt ≤ 1) → wkB l G (d + 2 + 1) n_X8_loan (fun r t I' L' R' => t = 336 ∧ ∃ z, r = some (.int z) ∧ R' = R1 ∧ L' = L1 ∧ z = qLoan A f x y w ∧ cS o A f n h sl I' R') 18 [.ref 0, .int x, .int y, .int w, wkU] [] I1 L1 R1 := fun c => w_X8_loan_18 ⟨rfl, _, rfl, rfl, rfl, by unfold qLoan; rw [if_pos c], hs⟩
  refine w_X8_loan_6 (fun q => bad (fun c => if1.1 q ⟨c.1, c.2.1⟩)) (fun q => w_X8_loan_9 (fun q2 => bad (fun c => ?_)) (fun q2 => w_X8_loan_13 (fun q3 => ?_) (fun q3 => bad (fun c => q3 (i_le.mpr c.2.2.2)))))
  · have q2 := i_lt.mp q2
    rw [show (0 : Int32).toInt = 0 from rfl] at q2
    have := c.2.2.1
    omega
  have q2 := nlt q2
  rw [show (0 : Int32).toInt = 0 from rfl] at q2
  have q3 := i_le.mp q3
  rw [show (1 : Int32).toInt = 1 from rfl] at q3
  have pr := if1.2 q
  have c0 : okS A x ∧ okT A y ∧ 0 ≤ w.toInt ∧ w.toInt ≤ 1 := ⟨pr.1, pr.2, by omega, q3⟩
  obtain ⟨⟨x0, x1⟩, y0, y1⟩ := pr
  have ha : x.toInt = x.toInt.toNat := by omega
  have he : y.toInt = y.toInt.toNat := by omega
  generalize hga : x.toInt.toNat = a at ha
  generalize hge : y.toInt.toNat = e at he
  have la := loan_t ha he (by omega) (by omega)
  have ca : (x * 6 + y).toNatClampNeg = 6 * a + e := by rw [tcn]; omega
  have v36 : vp_in (x * 6 + y) 36 := vin (by omega) (by omega)
  have el : I1 26 (6 * a + e) = f (24 + (6 * a + e)) := sEq_at s1 (by omega) (sI5 (by omega))
  have eu : I1 27 (6 * a + e) = f (60 + (6 * a + e)) := sEq_at s1 (by omega) (sI6 (by omega))
  have ev : qLoan A f x y w = if f (24 + (6 * a + e)) = 0 then -2 else if w = 0 then f (24 + (6 * a + e)) else f (60 + (6 * a + e)) := by
    unfold qLoan lnI
    rw [if_neg (fun z => z c0), hga, hge]
  refine w_X8_loan_20 (sLoanOf (d := d + 1)) (fun z I1 L1 R1 hq => ?_)
  obtain ⟨rfl, rfl, rfl, rfl⟩ := hq
  refine w_X8_loan_25 r2 (rb 5 (by decide) (by decide)) v36 (fun q4 => w_X8_loan_43 (fun q5 => w_X8_loan_60 r2 (rb 6 (by decide) (by decide)) v36 (w_X8_loan_70 ⟨rfl, _, rfl, rfl, rfl, ?_, hs⟩)) (fun q5 => w_X8_loan_47 r2 (rb 5 (by decide) (by decide)) v36 (w_X8_loan_70 ⟨rfl, _, rfl, rfl, rfl, ?_, hs⟩))) (fun q4 => w_X8_loan_40 ⟨rfl, _, rfl, rfl, rfl, ?_, hs⟩)
  · rw [ca, el] at q4
    rw [ev, if_neg q4, if_neg q5, ca, eu]
  · rw [ca, el] at q4
    rw [ev, if_neg q4, if_pos q5, ca, el]
  · rw [ca, el] at q4
    rw [ev, if_pos q4]
theorem sSeat (hs : cS o A f n h sl I R) {x w : Int32} : wkCi l G (d + 7) n_X8_seat [.ref 0, .int x, .int w] I L R (fun z I' L' R' => R' = R ∧ L' = L ∧ z = qSeat A f x w ∧ cS o A f n h sl I' R') := by
  obtain ⟨⟨hL, hR, h12⟩, s1, s2, s3⟩ := id hs
  have r2 := hR.1.1
  have rb := hR.2.2.2.2 21 bNow
  have hn2 := (cHas_n hL).2.2
  refine wkC_of 0 (by decide) (Nat.le_of_ble_eq_true rfl) (w_X8_seat_0 (sIsSeat (d := d + 5) hL h12) (fun z I1 L1 R1 hq => ?_))
  obtain ⟨rfl, rfl, rfl, rfl⟩ := hq
  refine w_X8_seat_5 (fun q => ?_) (fun q => w_X8_seat_8 ⟨rfl, _, rfl, rfl, rfl, by unfold qSeat; rw [if_pos (if1.1 q)], hs⟩)
  have c0 := if1.2 q
  obtain ⟨x0, x1⟩ := id c0
  have ha : x.toInt = x.toInt.toNat := by omega
  generalize hga : x.toInt.toNat = a at ha
  have cx : x.toNatClampNeg = a := by rw [tcn]; omega
  have vx : vp_in x 6 := vin (by omega) (by omega)
  have e1 : I1 22 a = f a := sEq_at s1 (by omega) (sI1 (by omega))
  have e2 : I1 23 a = f (6 + a) := sEq_at s1 (by omega) (sI2 (by omega))
  have e3 : I1 24 a = f (12 + a) := sEq_at s1 (by omega) (sI3 (by omega))
  have e4 : I1 25 a = f (18 + a) := sEq_at s1 (by omega) (sI4 (by omega))
  have e0 : I1 21 0 = f 96 := sEq_at s1 (by omega) sI0
  refine w_X8_seat_10 (qSwt_e (fun n0 => ?_) (fun n0 => qSwt_e (fun n1 => ?_) (fun n1 => qSwt_e (fun n2 => ?_) (fun n2 => qSwt_e (fun n3 => ?_) (fun n3 => qSwt_e (fun n4 => ?_) (fun n4 => qSwt_e (fun n5 => ?_) (fun n5 => qSwt_e (fun n6 => ?_) (fun n6 => qSwt_d ?_))))))))
  · subst n0
    refine w_X8_seat_52 r2 (rb 1 (by decide) (by decide)) vx ⟨rfl, _, rfl, rfl, rfl, ?_, hs⟩
    unfold qSeat
    rw [if_neg (fun z => z c0), if_pos (by decide), hga, cx, e1]
  · subst n1
    refine w_X8_seat_62 r2 (rb 2 (by decide) (by decide)) vx ⟨rfl, _, rfl, rfl, rfl, ?_, hs⟩
    unfold qSeat
    rw [if_neg (fun z => z c0), if_neg (by decide), if_pos (by decide), hga, cx, e2]
  · subst n2
    refine w_X8_seat_72 hL.1 r2 (rb 1 (by decide) (by decide)) vx h12 r2 (sHeat (d := d + 2) hL) (fun z I2 L2 R2 hq => ?_)
    obtain ⟨rfl, rfl, f2, rfl⟩ := hq
    refine w_X8_seat_96 (sThSeenM (d := d) (cS_q hs f2)) (fun z I3 L3 R3 hq => ?_)
    obtain ⟨rfl, rfl, f3, rfl⟩ := hq
    refine w_X8_seat_99 ⟨rfl, _, rfl, rfl, rfl, ?_, cS_q hs (cQ_tr f2 f3)⟩
    unfold qSeat
    rw [if_neg (fun z => z c0), if_neg (by decide), if_neg (by decide), if_pos (by decide), hga, cx, e1, e0]
  · subst n3
    refine w_X8_seat_100 (sLentOn (d := d + 4) hs ha (by omega)) (fun z I2 L2 R2 hq => ?_)
    obtain ⟨rfl, rfl, rfl, rfl⟩ := hq
    refine w_X8_seat_105 ⟨rfl, _, rfl, rfl, rfl, ?_, hs⟩
    unfold qSeat
    rw [if_neg (fun z => z c0), if_neg (by decide), if_neg (by decide), if_neg (by decide), if_pos (by decide), hga]
  · subst n4
    refine w_X8_seat_106 r2 (sLentBy (d := d + 4) hs ha (by omega)) (fun z I2 L2 R2 hq => ?_)
    obtain ⟨rfl, rfl, rfl, rfl⟩ := hq
    refine w_X8_seat_114 ⟨rfl, _, rfl, rfl, rfl, ?_, hs⟩
    unfold qSeat
    rw [if_neg (fun z => z c0), if_neg (by decide), if_neg (by decide), if_neg (by decide), if_neg (by decide), if_pos (by decide), hga]
  · subst n5
    refine w_X8_seat_115 r2 (rb 3 (by decide) (by decide)) vx ⟨rfl, _, rfl, rfl, rfl, ?_, hs⟩
    unfold qSeat
    rw [if_neg (fun z => z c0), if_neg (by decide), if_neg (by decide), if_neg (by decide), if_neg (by decide), if_neg (by decide), if_pos (by decide), hga, cx, e3]
  · subst n6
    refine w_X8_seat_125 r2 (rb 4 (by decide) (by decide)) vx ⟨rfl, _, rfl, rfl, rfl, ?_, hs⟩
    unfold qSeat
    rw [if_neg (fun z => z c0), if_neg (by decide), if_neg (by decide), if_neg (by decide), if_neg (by decide), if_neg (by decide), if_neg (by decide), if_pos (by decide), hga, cx, e4]
  · refine w_X8_seat_135 ⟨rfl, _, rfl, rfl, rfl, ?_, hs⟩
    unfold qSeat
    rw [if_neg (fun z => z c0), if_neg n0, if_neg (show ¬ w = 1 from n1), if_neg (show ¬ w = 2 from n2), if_neg (show ¬ w = 3 from n3), if_neg (show ¬ w = 4 from n4), if_neg (show ¬ w = 5 from n5), if_neg (show ¬ w = 6 from n6)]
end
