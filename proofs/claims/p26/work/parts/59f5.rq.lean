/-! ===== the reference's queries ===== -/
theorem le0 {x : Int32} (h0 : 0 ≤ x.toInt) : x ≤ 0 ↔ x = 0 := by
  constructor
  · intro q
    have q := i_le.mp q
    rw [show (0 : Int32).toInt = 0 from rfl] at q
    exact i_eq.mpr (by rw [show (0 : Int32).toInt = 0 from rfl]; omega)
  · intro q
    rw [q]
    decide
section
variable {l : Launch} {G : qG} {d : Nat} {I : qMI} {L : qML} {R : qMR} {v n : Nat} {A : aD} {f : Nat → Int32} {h sl : Nat → Nat → Int32}
theorem uSeesBitsL (hR : wkR R) (hL : rHas v I A) (hA : aOk A) (hf : fOk A f) (hs : rEq I 324 f) {Q : qQ} {x : Int32} {a : Nat} (ha : x.toInt = a) (hA1 : a < 6) : ∀ (m e : Nat) (y acc : Int32) (J : qMI), e + m = A.1.length → y.toInt = e → rW I J → (∀ J' : qMI, rW I J' → Q (some (.int (qB (fun e => decide (pSn A f a e)) m e y acc))) 336 J' L R) → wkB l G (d + 6 + 1) n_X9_seesBits Q 4 [.ref 292, .int x, .int acc, .int y] [] J L R := by
  have n6 := hA.1
  have hv := hL.1.1
  intro m
  induction m with
  | zero =>
    intro e y acc J hn hy hJ k
    have hLJ := rHas_q hJ hL
    have h18' := hLJ.1.2
    have cl : (J 292 18).toNatClampNeg = v := by rw [tcn]; omega
    have hn2 := (rHas_n hLJ).1.1
    exact w_X9_seesBits_4 hR (vin (by omega) (by omega)) (fun _ => w_X9_seesBits_50 (k J hJ)) (fun q => absurd (i_le.mpr (by rw [cl]; omega)) q)
  | succ m ih =>
    intro e y acc J hn hy hJ k
    have hLJ := rHas_q hJ hL
    have h18' := hLJ.1.2
    have cl : (J 292 18).toNatClampNeg = v := by rw [tcn]; omega
    have hn2 := (rHas_n hLJ).1.1
    have y1 : (y + 1).toInt = ((e + 1 : Nat) : Int) := by rw [i_s (by omega)]; omega
    have cx : x.toNatClampNeg = a := by rw [tcn]; omega
    have e2 := rEq_w hJ hs
    refine w_X9_seesBits_4 hR (vin (by omega) (by omega)) (fun q => absurd (i_le.mp q) (by rw [cl]; omega)) (fun _ => w_X9_seesBits_17 hR (vin (by omega) (by omega)) (vin (by decide) (by decide)) (P := fun z I' L' => L' = L ∧ rW J I' ∧ z = if pSn A f a e then 1 else 0) (by rw [cx, show (96 : Int32).toNatClampNeg = 96 from rfl, e2 _ (by omega), e2 96 (by omega)]; exact uSees (d := d) hR hLJ (hf.1 a (by omega)) hy (by omega) (hA.2.1 e (by omega))) (fun z I3 L3 hq => ?_))
    obtain ⟨rfl, f1, rfl⟩ := hq
    refine w_X9_seesBits_35 (fun q => w_X9_seesBits_44 (ih (e + 1) _ _ _ (by omega) y1 (rW_tr hJ f1) (fun J' j => ?_))) (fun q => w_X9_seesBits_38 (w_X9_seesBits_44 (ih (e + 1) _ _ _ (by omega) y1 (rW_tr hJ f1) (fun J' j => ?_))))
    · have := k J' j
      rw [qB_f (by exact decide_eq_false (if1.1 q))] at this
      exact this
    · have := k J' j
      rw [qB_t (by exact decide_eq_true (if1.2 q))] at this
      exact this
theorem uSeesBits (hR : wkR R) (hL : rHas v I A) (hA : aOk A) (hf : fOk A f) (hs : rEq I 324 f) {x : Int32} {a : Nat} (ha : x.toInt = a) (hA1 : a < 6) : wkI l G (d + 7) n_X9_seesBits [.ref 292, .int x] I L R (fun z I' L' => L' = L ∧ rW I I' ∧ z = qSeesT A (f 96) (pHt A (f 96)) (f a)) :=
  wkC_of 2 (by decide) (Nat.le_of_ble_eq_true rfl) (w_X9_seesBits_0 (uSeesBitsL (d := d) hR hL hA hf hs ha hA1 A.1.length 0 0 0 I (by omega) rfl (rW_rf I) (fun J' j => ⟨rfl, rfl, _, rfl, rfl, j, rfl⟩)))
theorem ln_t {x y : Int32} {a e : Nat} (ha : x.toInt = a) (he : y.toInt = e) (ha6 : a < 6) (he6 : e < 6) : ((24 + (6 * x)) + y).toInt = 24 + (6 * a + e) := by
  have z6 : (6 : Int32).toInt = 6 := rfl
  have z24 : (24 : Int32).toInt = 24 := rfl
  have m6 : (6 * x).toInt = 6 * a := by rw [i_mul (by rw [z6]; omega) (by rw [z6]; omega), ha]; rfl
  have m7 : (24 + (6 * x)).toInt = 24 + 6 * a := by rw [i_add (by omega) (by omega), m6, z24]
  rw [i_add (by omega) (by omega), m7, he]
  omega
theorem uLentByL (hR : wkR R) (hL : rHas v I A) (hA : aOk A) (hs : rEq I 324 f) {Q : qQ} {x : Int32} {a : Nat} (ha : x.toInt = a) (hA1 : a < 6) : ∀ (m e : Nat) (y acc : Int32), e + m = A.1.length → y.toInt = e → Q (some (.int (qS (fun e => f (24 + (6 * a + e))) m e acc))) 336 I L R → wkB l G (d + 1) n_X9_lentBy Q 4 [.ref 292, .int x, .int acc, .int y] [] I L R := by
  have n6 := hA.1
  have hv := hL.1.1
  have h18' := hL.1.2
  have cl : (I 292 18).toNatClampNeg = v := by rw [tcn]; omega
  have hn2 := (rHas_n hL).1.1
  intro m
  induction m with
  | zero =>
    intro e y acc hn hy k
    exact w_X9_lentBy_4 hR (vin (by omega) (by omega)) (fun _ => w_X9_lentBy_40 k) (fun q => absurd (i_le.mpr (by rw [cl]; omega)) q)
  | succ m ih =>
    intro e y acc hn hy k
    have y1 : (y + 1).toInt = ((e + 1 : Nat) : Int) := by rw [i_s (by omega)]; omega
    have la := ln_t ha hy hA1 (by omega)
    have c24 : ((24 + (6 * x)) + y).toNatClampNeg = 24 + (6 * a + e) := by rw [tcn]; omega
    refine w_X9_lentBy_4 hR (vin (by omega) (by omega)) (fun q => absurd (i_le.mp q) (by rw [cl]; omega)) (fun _ => w_X9_lentBy_17 hR (vin (by omega) (by omega)) (ih (e + 1) _ _ (by omega) y1 ?_))
    rw [c24, hs _ (by omega)]
    exact k
theorem uLentBy (hR : wkR R) (hL : rHas v I A) (hA : aOk A) (hf : fOk A f) (hs : rEq I 324 f) {x : Int32} {a : Nat} (ha : x.toInt = a) (hA1 : a < 6) : wkI l G (d + 1) n_X9_lentBy [.ref 292, .int x] I L R (fun z I' L' => L' = L ∧ I' = I ∧ z = qLentBy f a) := by
  refine wkC_of 2 (by decide) (Nat.le_of_ble_eq_true rfl) (w_X9_lentBy_0 (uLentByL (d := d) hR hL hA hs ha hA1 A.1.length 0 0 0 (by omega) rfl ⟨rfl, rfl, _, rfl, rfl, rfl, ?_⟩))
  have n6 := hA.1.1
  have s := qS_add (fun e => f (24 + (6 * a + e))) A.1.length (6 - A.1.length) 0 0
  rw [show A.1.length + (6 - A.1.length) = 6 by omega] at s
  exact (s.trans (qS_z _ (6 - A.1.length) _ _ (fun j j1 j2 => hf.2.2.2.2 a j hA1 (by omega) (fun z => by omega)))).symm
theorem uLoan2 (hR : wkR R) (hs : rS v A f n h sl I) (hA : aOk A) (hf : fOk A f) {x y w : Int32} : wkI l G (d + 3) n_X9_loan [.ref 292, .int x, .int y, .int w] I L R (fun z I' L' => L' = L ∧ z = qLoan A f x y w ∧ rS v A f n h sl I' ∧ rMf I I') := by
  obtain ⟨hL, s1, s2, s3⟩ := id hs
  have n6 := hA.1
  have bad : ¬ (okS A x ∧ okT A y ∧ 0 ≤ w.toInt ∧ w.toInt ≤ 1) → wkB l G (d + 2 + 1) n_X9_loan (wkPI R (fun z I' L' => L' = L ∧ z = qLoan A f x y w ∧ rS v A f n h sl I' ∧ rMf I I')) 25 [.ref 292, .int x, .int y, .int w] [] I L R := fun c => w_X9_loan_25 ⟨rfl, rfl, _, rfl, rfl, by unfold qLoan; rw [if_pos c], hs, rMf_rf I⟩
  refine wkC_of 0 (by decide) (Nat.le_of_ble_eq_true rfl) (w_X9_loan_0 (uIsSeat (d := d) hR hL) (fun z I1 L1 hq => ?_))
  obtain ⟨rfl, rfl, rfl⟩ := hq
  refine w_X9_loan_5 (fun q => bad (fun c => if1.1 q c.1)) (fun q => w_X9_loan_8 (uIsThing (d := d) hR hL) (fun z I1 L1 hq => ?_))
  obtain ⟨rfl, rfl, rfl⟩ := hq
  refine w_X9_loan_13 (fun q2 => bad (fun c => if1.1 q2 c.2.1)) (fun q2 => w_X9_loan_16 (uIn (d := d + 1)) (fun z I1 L1 hq => ?_))
  obtain ⟨rfl, rfl, rfl⟩ := hq
  refine w_X9_loan_22 (fun q3 => ?_) (fun q3 => bad (fun c => if1.1 q3 c.2.2))
  have pr := if1.2 q
  have pr2 := if1.2 q2
  have pr3 := if1.2 q3
  rw [show (0 : Int32).toInt = 0 from rfl, show (1 : Int32).toInt = 1 from rfl] at pr3
  have c0 : okS A x ∧ okT A y ∧ 0 ≤ w.toInt ∧ w.toInt ≤ 1 := ⟨pr, pr2, pr3⟩
  obtain ⟨x0, x1⟩ := pr
  obtain ⟨y0, y1⟩ := pr2
  have ha : x.toInt = x.toInt.toNat := by omega
  have he : y.toInt = y.toInt.toNat := by omega
  generalize hga : x.toInt.toNat = a at ha
  generalize hge : y.toInt.toNat = e at he
  have la := ln_t ha he (by omega) (by omega)
  have c24 : ((24 + (6 * x)) + y).toNatClampNeg = 24 + (6 * a + e) := by rw [tcn]; omega
  have ev : qLoan A f x y w = if f (24 + (6 * a + e)) = 0 then -2 else if w = 0 then f (24 + (6 * a + e)) else f (60 + (6 * a + e)) := by
    unfold qLoan lnI
    rw [if_neg (fun z => z c0), hga, hge]
  refine w_X9_loan_27 hR (vin (by omega) (by omega)) (fun q4 => ?_) (fun q4 => ?_)
  · rw [c24, s1 _ (by omega)] at q4
    have z6 : (6 : Int32).toInt = 6 := rfl
    have z24 : (24 : Int32).toInt = 24 := rfl
    have z36 : (36 : Int32).toInt = 36 := rfl
    have m36 : (36 * w).toInt = 36 * w.toInt := by rw [i_mul (by rw [z36]; omega) (by rw [z36]; omega), z36]
    have m24 : (24 + 36 * w).toInt = 24 + 36 * w.toInt := by rw [i_add (by omega) (by omega), m36, z24]
    have m6 : (6 * x).toInt = 6 * a := by rw [i_mul (by rw [z6]; omega) (by rw [z6]; omega), ha]; rfl
    have m7 : ((24 + 36 * w) + 6 * x).toInt = 24 + 36 * w.toInt + 6 * a := by rw [i_add (by omega) (by omega), m6, m24]
    have m8 : (((24 + 36 * w) + 6 * x) + y).toInt = 24 + 36 * w.toInt + 6 * a + e := by rw [i_add (by omega) (by omega), m7, he]
    by_cases q5 : w = 0
    · have w0 : w.toInt = 0 := by rw [q5]; rfl
      have c8 : (((24 + 36 * w) + 6 * x) + y).toNatClampNeg = 24 + (6 * a + e) := by rw [tcn]; omega
      refine w_X9_loan_47 hR (vin (by omega) (by omega)) ⟨rfl, rfl, _, rfl, rfl, ?_, hs, rMf_rf _⟩
      rw [ev, if_neg q4, if_pos q5, c8, s1 _ (by omega)]
    · have w1 : w.toInt = 1 := by
        have : ¬ w.toInt = 0 := fun z => q5 (i_eq.mpr z)
        omega
      have c8 : (((24 + 36 * w) + 6 * x) + y).toNatClampNeg = 60 + (6 * a + e) := by rw [tcn]; omega
      refine w_X9_loan_47 hR (vin (by omega) (by omega)) ⟨rfl, rfl, _, rfl, rfl, ?_, hs, rMf_rf _⟩
      rw [ev, if_neg q4, if_neg q5, c8, s1 _ (by omega)]
  · rw [c24, s1 _ (by omega)] at q4
    refine w_X9_loan_44 ⟨rfl, rfl, _, rfl, rfl, ?_, hs, rMf_rf _⟩
    rw [ev, if_pos q4]
theorem uSeatL (hR : wkR R) (hL : rHas v I A) (hA : aOk A) (hf : fOk A f) (hs : rEq I 324 f) {Q : qQ} {x w : Int32} {a : Nat} (ha : x.toInt = a) (hA1 : a < 6) : ∀ (m e : Nat) (y acc : Int32), e + m = A.1.length → y.toInt = e → Q (some (.int (qB (fun e => decide (¬ f (24 + (6 * a + e)) = 0)) m e y acc))) 336 I L R → wkB l G (d + 1) n_X9_seat Q 84 [.ref 292, .int x, .int w, .int acc, .int y] [] I L R := by
  have n6 := hA.1
  have hv := hL.1.1
  have h18' := hL.1.2
  have cl : (I 292 18).toNatClampNeg = v := by rw [tcn]; omega
  have hn2 := (rHas_n hL).1.1
  intro m
  induction m with
  | zero =>
    intro e y acc hn hy k
    exact w_X9_seat_84 hR (vin (by omega) (by omega)) (fun _ => w_X9_seat_129 k) (fun q => absurd (i_le.mpr (by rw [cl]; omega)) q)
  | succ m ih =>
    intro e y acc hn hy k
    have y1 : (y + 1).toInt = ((e + 1 : Nat) : Int) := by rw [i_s (by omega)]; omega
    have la := ln_t ha hy hA1 (by omega)
    have c24 : ((24 + (6 * x)) + y).toNatClampNeg = 24 + (6 * a + e) := by rw [tcn]; omega
    have lb := (hf.2.2.1 (6 * a + e) (by omega)).1
    refine w_X9_seat_84 hR (vin (by omega) (by omega)) (fun q => absurd (i_le.mp q) (by rw [cl]; omega)) (fun _ => w_X9_seat_98 hR (vin (by omega) (by omega)) (fun q => w_X9_seat_123 (ih (e + 1) _ _ (by omega) y1 ?_)) (fun q => w_X9_seat_116 (w_X9_seat_123 (ih (e + 1) _ _ (by omega) y1 ?_))))
    · rw [c24, hs _ (by omega)] at q
      rw [qB_f (by exact decide_eq_false (fun z => z ((le0 lb).mp q)))] at k
      exact k
    · rw [c24, hs _ (by omega)] at q
      rw [qB_t (by exact decide_eq_true (fun z => q ((le0 lb).mpr z)))] at k
      exact k
theorem uSeat2 (hR : wkR R) (hs : rS v A f n h sl I) (hA : aOk A) (hf : fOk A f) {x w : Int32} : wkI l G (d + 8) n_X9_seat [.ref 292, .int x, .int w] I L R (fun z I' L' => L' = L ∧ z = qSeat A f x w ∧ rS v A f n h sl I' ∧ rMf I I') := by
  obtain ⟨hL, s1, s2, s3⟩ := id hs
  have n6 := hA.1
  refine wkC_of 2 (by decide) (Nat.le_of_ble_eq_true rfl) (w_X9_seat_0 (uIsSeat (d := d + 5) hR hL) (fun z I1 L1 hq => ?_))
  obtain ⟨rfl, rfl, rfl⟩ := hq
  refine w_X9_seat_5 (fun q => ?_) (fun q => w_X9_seat_8 ⟨rfl, rfl, _, rfl, rfl, by unfold qSeat; rw [if_pos (if1.1 q)], hs, rMf_rf _⟩)
  have c0 := if1.2 q
  obtain ⟨x0, x1⟩ := id c0
  have ha : x.toInt = x.toInt.toNat := by omega
  generalize hga : x.toInt.toNat = a at ha
  have z6 : (6 : Int32).toInt = 6 := rfl
  have z12 : (12 : Int32).toInt = 12 := rfl
  have z18 : (18 : Int32).toInt = 18 := rfl
  have i6 : (6 + x).toInt = 6 + a := by rw [i_add (by omega) (by omega), ha, z6]
  have i12 : (12 + x).toInt = 12 + a := by rw [i_add (by omega) (by omega), ha, z12]
  have i18 : (18 + x).toInt = 18 + a := by rw [i_add (by omega) (by omega), ha, z18]
  have cx : x.toNatClampNeg = a := by rw [tcn]; omega
  have c6 : (6 + x).toNatClampNeg = 6 + a := by rw [tcn]; omega
  have c12 : (12 + x).toNatClampNeg = 12 + a := by rw [tcn]; omega
  have c18 : (18 + x).toNatClampNeg = 18 + a := by rw [tcn]; omega
  refine w_X9_seat_10 (uCopies (d := d + 6) hR hL s1) (fun I2 L2 hq => ?_)
  obtain ⟨rfl, f2, g2, -, e2⟩ := hq
  have hs2 := rS_cp hs f2 g2
  have r2 : rMf I1 I2 := rMf_cp g2
  refine w_X9_seat_14 (qSwt_e (fun n0 => ?_) (fun n0 => qSwt_e (fun n1 => ?_) (fun n1 => qSwt_e (fun n2 => ?_) (fun n2 => qSwt_e (fun n3 => ?_) (fun n3 => qSwt_e (fun n4 => ?_) (fun n4 => qSwt_e (fun n5 => ?_) (fun n5 => qSwt_e (fun n6 => ?_) (fun n6 => qSwt_d ?_))))))))
  · subst n0
    refine w_X9_seat_56 hR (vin (by omega) (by omega)) ⟨rfl, rfl, _, rfl, rfl, ?_, hs2, r2⟩
    unfold qSeat
    rw [if_neg (fun z => z c0), if_pos (by decide), hga, cx, e2 _ (by omega)]
  · subst n1
    refine w_X9_seat_63 hR (vin (by omega) (by omega)) ⟨rfl, rfl, _, rfl, rfl, ?_, hs2, r2⟩
    unfold qSeat
    rw [if_neg (fun z => z c0), if_neg (by decide), if_pos (by decide), hga, c6, e2 _ (by omega)]
  · subst n2
    refine w_X9_seat_73 (uSeesBits (d := d) hR hs2.1 hA hf e2 ha (by omega)) (fun z I3 L3 hq => ?_)
    obtain ⟨rfl, f3, rfl⟩ := hq
    refine w_X9_seat_78 ⟨rfl, rfl, _, rfl, rfl, ?_, rS_g hs2 (rFg_w f3), rMf_tr r2 (rMf_g (rFg_w f3))⟩
    unfold qSeat
    rw [if_neg (fun z => z c0), if_neg (by decide), if_neg (by decide), if_pos (by decide), hga]
  · subst n3
    refine w_X9_seat_79 (uSeatL (d := d + 7) hR hs2.1 hA hf e2 ha (by omega) A.1.length 0 0 0 (by omega) rfl ⟨rfl, rfl, _, rfl, rfl, ?_, hs2, r2⟩)
    unfold qSeat
    rw [if_neg (fun z => z c0), if_neg (by decide), if_neg (by decide), if_neg (by decide), if_pos (by decide), hga]
    rfl
  · subst n4
    refine w_X9_seat_131 (uLentBy (d := d + 6) hR hs2.1 hA hf e2 ha (by omega)) (fun z I3 L3 hq => ?_)
    obtain ⟨rfl, rfl, rfl⟩ := hq
    refine w_X9_seat_136 ⟨rfl, rfl, _, rfl, rfl, ?_, hs2, r2⟩
    unfold qSeat
    rw [if_neg (fun z => z c0), if_neg (by decide), if_neg (by decide), if_neg (by decide), if_neg (by decide), if_pos (by decide), hga]
  · subst n5
    refine w_X9_seat_137 hR (vin (by omega) (by omega)) ⟨rfl, rfl, _, rfl, rfl, ?_, hs2, r2⟩
    unfold qSeat
    rw [if_neg (fun z => z c0), if_neg (by decide), if_neg (by decide), if_neg (by decide), if_neg (by decide), if_neg (by decide), if_pos (by decide), hga, c12, e2 _ (by omega)]
  · subst n6
    refine w_X9_seat_147 hR (vin (by omega) (by omega)) ⟨rfl, rfl, _, rfl, rfl, ?_, hs2, r2⟩
    unfold qSeat
    rw [if_neg (fun z => z c0), if_neg (by decide), if_neg (by decide), if_neg (by decide), if_neg (by decide), if_neg (by decide), if_neg (by decide), if_pos (by decide), hga, c18, e2 _ (by omega)]
  · refine w_X9_seat_157 ⟨rfl, rfl, _, rfl, rfl, ?_, hs2, r2⟩
    unfold qSeat
    rw [if_neg (fun z => z c0), if_neg n0, if_neg (show ¬ w = 1 from n1), if_neg (show ¬ w = 2 from n2), if_neg (show ¬ w = 3 from n3), if_neg (show ¬ w = 4 from n4), if_neg (show ¬ w = 5 from n5), if_neg (show ¬ w = 6 from n6)]
end
