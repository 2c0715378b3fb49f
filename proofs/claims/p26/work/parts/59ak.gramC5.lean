section
variable {l : Launch} {G : qG} {d : Nat} {I : qMI} {L : qML} {R : qMR} {o : Nat} {z : pZ} {K S : Nat → Int32} {N : Nat → Int64}
/-- what is told of laws and settings doesn't count here -/
theorem cH_w (ho : o = 9 ∨ o = 259) {k i : Nat} {x : Int32} (hk : (k = o ∧ 8 ≤ i ∧ i ≤ 12) ∨ (o + 7 ≤ k ∧ k ≤ o + 9) ∨ (k = o + 6 ∧ i = 2 ∧ 0 ≤ x.toInt ∧ x.toInt ≤ 420)) (h : cH o K S N I L z) : cF o I L (qUp I k i x) L ∧ cH o K S N (qUp I k i x) L z := by
  have e : ∀ a, a ≠ k → (qUp I k i x) a = I a := fun a q => funext fun j => qUp_ne (fun w => q w.1)
  have eo : ∀ j, j = 1 ∨ j = 2 ∨ j = 5 → (qUp I k i x) o j = I o j := fun j q => qUp_ne (fun w => by omega)
  have hF : cF o I L (qUp I k i x) L := ⟨fun a q1 q2 => e a (by omega), fun j q => by rw [e 3 (by omega)], fun _ _ => rfl, fun j _ => ⟨fun q => qUp_ne (fun w => by omega), fun q => qUp_ne (fun w => by omega)⟩⟩
  refine ⟨hF, cH_of ho h.1 hF ?_⟩
  obtain ⟨-, h1, h2, h3, h4, h5⟩ := h
  refine ⟨by rw [e 3 (by omega)]; exact h1, by rw [e 3 (by omega)]; exact h2, by rw [e 3 (by omega)]; exact h3, fun hf => ?_, ?_⟩
  · obtain ⟨a1, a3, n1, n2, n3, n4⟩ := h4 hf
    refine ⟨by rw [e 3 (by omega), e 6 (by omega)]; exact a1, by rw [e 3 (by omega)]; exact a3, n1, by rw [eo 1 (by omega)]; exact n2, by rw [eo 2 (by omega)]; exact n3, by rw [eo 5 (by omega)]; exact n4⟩
  · unfold cBd at h5 ⊢
    rw [eo 1 (by omega), eo 2 (by omega), eo 5 (by omega)]
    refine ⟨h5.1, h5.2.1, h5.2.2.1, ?_⟩
    rw [qUp_at]
    split
    · omega
    · exact h5.2.2.2
theorem cEmit (ho : o = 9 ∨ o = 259) (hR : cRf R o) (h : cH o K S N I L z) {a b : Int32} : wkCi l G (d + 1) n_X2_emit [.ref (o + 6), .int a, .int b] I L R (fun _ I' L' R' => cPo o K S N I L R z I' L' R') := by
  have hb := h.2.2.2.2.2.2.2.2
  refine wkC_of 0 (by decide) (Nat.le_of_ble_eq_true rfl) (w_X2_emit_0 ho (fun _ => w_X2_emit_40 ho ⟨rfl, _, rfl, rfl, cF_rf o I L, h⟩) (fun q => ?_))
  have q : ¬ _ := fun w => q (i_le.mpr w)
  rw [show (420 : Int32).toInt = 420 from rfl] at q
  have v : vp_in (I (o + 6) 2) 420 := vin hb.1 (by omega)
  have e1 : ∀ y, (qUp I (o + 7) y a) (o + 6) 2 = I (o + 6) 2 := fun y => qUp_ne (by omega)
  have e2 : ∀ y y', (qUp (qUp I (o + 7) y a) (o + 8) y' b) (o + 6) 2 = I (o + 6) 2 := fun y y' => by rw [qUp_ne (by omega), e1]
  obtain ⟨f1, g1⟩ := cH_w (x := a) (i := (I (o + 6) 2).toNatClampNeg) (k := o + 7) ho (Or.inr (Or.inl (by omega))) h
  obtain ⟨f2, g2⟩ := cH_w (x := b) (i := (I (o + 6) 2).toNatClampNeg) (k := o + 8) ho (Or.inr (Or.inl (by omega))) g1
  obtain ⟨f3, g3⟩ := cH_w (x := I (o + 6) 2 + 1) (i := 2) (k := o + 6) ho (Or.inr (Or.inr ⟨rfl, rfl, by rw [i_s (by omega)]; omega, by rw [i_s (by omega)]; omega⟩)) g2
  refine w_X2_emit_10 ho hR.2.2.2.1 v hR.2.2.2.2.1 (by rw [e1]; exact v) (w_X2_emit_40 ho ⟨rfl, _, rfl, rfl, ?_, ?_⟩)
  · rw [e2, e1]
    exact cF_tr f1 (cF_tr f2 f3)
  · rw [e2, e1]
    exact g3
theorem cOpen (ho : o = 9 ∨ o = 259) (hR : cRf R o) (h : cH o K S N I L z) {a : Int32} : wkCv l G (d + 1) n_X2_open [.ref (o + 6), .int a] I L R (cPo o K S N I L R z) := by
  have same : wkB l G (d + 1) n_X2_open (fun r t I' L' R' => t = 336 ∧ r = none ∧ cPo o K S N I L R z I' L' R') 19 [.ref (o + 6), .int a] [] I L R := w_X2_open_19 ho ⟨rfl, rfl, rfl, cF_rf o I L, h⟩
  refine wkC_of 0 (by decide) (Nat.le_of_ble_eq_true rfl) (w_X2_open_0 ho (fun _ => same) (fun q1 => w_X2_open_4 ho (fun _ => same) (fun q2 => ?_)))
  have q1 : ¬ _ := fun w => q1 (i_lt.mpr w)
  have q2 : ¬ _ := fun w => q2 (i_le.mpr w)
  rw [show (0 : Int32).toInt = 0 from rfl] at q1
  rw [show (5 : Int32).toInt = 5 from rfl] at q2
  obtain ⟨f1, g1⟩ := cH_w (x := I (o + 6) 2) (i := a.toNatClampNeg) (k := o + 9) ho (Or.inr (Or.inl (by omega))) h
  exact w_X2_open_9 ho hR.2.2.2.2.2 (vin (by omega) (by omega)) (w_X2_open_19 ho ⟨rfl, rfl, rfl, f1, g1⟩)
theorem cLead (ho : o = 9 ∨ o = 259) (hR : cRf R o) (h : cH o K S N I L z) {a : Int32} : wkCv l G (d + 1) n_X2_leadOnFrom [.ref (o + 6), .int a] I L R (cPo o K S N I L R z) := by
  have hb := h.2.2.2.2.2.2.2.2
  have same : wkB l G (d + 1) n_X2_leadOnFrom (fun r t I' L' R' => t = 336 ∧ r = none ∧ cPo o K S N I L R z I' L' R') 22 [.ref (o + 6), .int a] [] I L R := w_X2_leadOnFrom_22 ho ⟨rfl, rfl, rfl, cF_rf o I L, h⟩
  refine wkC_of 0 (by decide) (Nat.le_of_ble_eq_true rfl) (w_X2_leadOnFrom_0 ho (fun _ => same) (fun q1 => w_X2_leadOnFrom_4 ho (fun _ => same) (fun q2 => ?_)))
  have q1 : ¬ _ := fun w => q1 (i_lt.mpr w)
  have q2 : ¬ _ := fun w => q2 (i_le.mpr w)
  rw [show (0 : Int32).toInt = 0 from rfl] at q1
  obtain ⟨f1, g1⟩ := cH_w (x := I (o + 6) 2) (i := a.toNatClampNeg) (k := o + 8) ho (Or.inr (Or.inl (by omega))) h
  exact w_X2_leadOnFrom_12 ho hR.2.2.2.2.1 (vin (by omega) (by omega)) (w_X2_leadOnFrom_22 ho ⟨rfl, rfl, rfl, f1, g1⟩)
theorem cProd (ho : o = 9 ∨ o = 259) (hR : cRf R o) {a1 : Int32} {u : pZ → pZ} (hu : ∀ (I : qMI) (L : qML) (z : pZ), cH o K S N I L z → wkCv l G (d + 1) n_X1_takeUnit [.ref 3, .int a1] I L R (cPo o K S N I L R (u z))) (h : cH o K S N I L z) : wkCv l G (d + 2) n_X1_takeProduct [.ref 3, .int a1] I L R (cPo o K S N I L R (zPr K S u z)) := by
  have loop : ∀ (m : Nat) (a2 : Int32) (J : qMI) (M : qML) (y : pZ), 401 - a2.toInt = m → 0 ≤ a2.toInt → cF o I L J M → cH o K S N J M y → wkB l G (d + 1 + 1) n_X1_takeProduct (fun r t I' L' R' => t = 336 ∧ r = none ∧ cPo o K S N I L R (zLoop K S zMul u m y) I' L' R') 7 [.ref 3, .int a1, .int a2, wkU] [] J M R := by
    intro m
    induction m with
    | zero =>
      intro a2 J M y hm h0 f g
      exact w_X1_takeProduct_7 (fun _ => w_X1_takeProduct_83 ⟨rfl, rfl, rfl, f, g⟩) (fun q => absurd (i_lt.mpr (by rw [show (400 : Int32).toInt = 400 from rfl]; omega)) q)
    | succ m ih =>
      intro a2 J M y hm h0 f g
      obtain ⟨-, h4, hz⟩ := cAt g
      have e1 : (a2 + 1).toInt = a2.toInt + 1 := i_s (by omega)
      have stop : ¬ (pf y = 0 ∧ zMul (K (pt y)) = true) → wkB l G (d + 1 + 1) n_X1_takeProduct (fun r t I' L' R' => t = 336 ∧ r = none ∧ cPo o K S N I L R (zLoop K S zMul u (m + 1) y) I' L' R') 83 [.ref 3, .int a1, .int a2, wkU] [] J M R := fun q => by
        have e : zLoop K S zMul u (m + 1) y = y := by
          show (if _ then _ else _) = _
          rw [if_neg q]
        rw [e]
        exact w_X1_takeProduct_83 ⟨rfl, rfl, rfl, f, g⟩
      refine w_X1_takeProduct_7 (fun q => absurd (i_lt.mp q) (by rw [show (400 : Int32).toInt = 400 from rfl]; omega)) (fun _ => w_X1_takeProduct_14 (fun q => stop (fun w => q (by rw [h4]; exact w.1))) (fun q => ?_))
      have hf : pf y = 0 := by rw [← h4]; exact q
      have ek := (hz hf).2
      have go : zMul (K (pt y)) = true → wkB l G (d + 1 + 1) n_X1_takeProduct (fun r t I' L' R' => t = 336 ∧ r = none ∧ cPo o K S N I L R (zLoop K S zMul u (m + 1) y) I' L' R') 39 [.ref 3, .int a1, .int a2, wkU] [] J M R := fun hm' => by
        have e : zLoop K S zMul u (m + 1) y = zLoop K S zMul u m (u (zTake S true y)) := by
          show (if _ then _ else _) = _
          rw [if_pos ⟨hf, hm'⟩]
        rw [e]
        have rest : ∀ s : Int32, wkB l G (d + 1 + 1) n_X1_takeProduct (fun r t I' L' R' => t = 336 ∧ r = none ∧ cPo o K S N I L R (zLoop K S zMul u m (u (zTake S true y))) I' L' R') 53 [.ref 3, .int a1, .int a2, wkU] [.int s] J M R := by
          intro s
          refine w_X1_takeProduct_53 (cTakeH (d := d) ho hR g (Or.inr rfl) (c := true) (fun _ => rfl)) (fun I1 L1 R1 hq => ?_)
          obtain ⟨rfl, f1, g1⟩ := hq
          refine w_X1_takeProduct_59 (hu I1 L1 _ g1) (fun I2 L2 R2 hq => ?_)
          obtain ⟨rfl, f2, g2⟩ := hq
          refine w_X1_takeProduct_64 ho hR.1.2 hR.2.2.1.2.2.2.2.2 (cEmit (d := d) ho hR g2) (fun y3 I3 L3 R3 hq => ?_)
          obtain ⟨rfl, f3, g3⟩ := hq
          exact w_X1_takeProduct_76 (ih (a2 + 1) I3 L3 _ (by omega) (by omega) (cF_tr f (cF_tr f1 (cF_tr f2 f3))) g3)
        exact w_X1_takeProduct_39 (fun _ => w_X1_takeProduct_52 (rest 5)) (fun _ => w_X1_takeProduct_48 (rest 4))
      exact w_X1_takeProduct_21 (fun q => go (decide_eq_true (Or.inl (ek.symm.trans q)))) (fun q1 => w_X1_takeProduct_30 (fun q2 => stop (fun w => by rcases of_decide_eq_true w.2 with e | e; exact q1 (ek.trans e); exact q2 (ek.trans e))) (fun q => go (decide_eq_true (Or.inr (ek.symm.trans q)))))
  refine wkC_of 2 (by decide) (Nat.le_of_ble_eq_true rfl) (w_X1_takeProduct_0 (hu I L z h) (fun I1 L1 R1 hq => ?_))
  obtain ⟨rfl, f1, g1⟩ := hq
  exact w_X1_takeProduct_5 (loop 401 0 I1 L1 _ (by rfl) (by decide) f1 g1)
theorem cSum (ho : o = 9 ∨ o = 259) (hR : cRf R o) {a1 : Int32} {u : pZ → pZ} (hu : ∀ (I : qMI) (L : qML) (z : pZ), cH o K S N I L z → wkCv l G (d + 1) n_X1_takeUnit [.ref 3, .int a1] I L R (cPo o K S N I L R (u z))) (h : cH o K S N I L z) : wkCv l G (d + 3) n_X1_takeSum [.ref 3, .int a1] I L R (cPo o K S N I L R (zSu K S u z)) := by
  have loop : ∀ (m : Nat) (a2 : Int32) (J : qMI) (M : qML) (y : pZ), 401 - a2.toInt = m → 0 ≤ a2.toInt → cF o I L J M → cH o K S N J M y → wkB l G (d + 2 + 1) n_X1_takeSum (fun r t I' L' R' => t = 336 ∧ r = none ∧ cPo o K S N I L R (zLoop K S zAdd (zPr K S u) m y) I' L' R') 7 [.ref 3, .int a1, .int a2, wkU] [] J M R := by
    intro m
    induction m with
    | zero =>
      intro a2 J M y hm h0 f g
      exact w_X1_takeSum_7 (fun _ => w_X1_takeSum_83 ⟨rfl, rfl, rfl, f, g⟩) (fun q => absurd (i_lt.mpr (by rw [show (400 : Int32).toInt = 400 from rfl]; omega)) q)
    | succ m ih =>
      intro a2 J M y hm h0 f g
      obtain ⟨-, h4, hz⟩ := cAt g
      have e1 : (a2 + 1).toInt = a2.toInt + 1 := i_s (by omega)
      have stop : ¬ (pf y = 0 ∧ zAdd (K (pt y)) = true) → wkB l G (d + 2 + 1) n_X1_takeSum (fun r t I' L' R' => t = 336 ∧ r = none ∧ cPo o K S N I L R (zLoop K S zAdd (zPr K S u) (m + 1) y) I' L' R') 83 [.ref 3, .int a1, .int a2, wkU] [] J M R := fun q => by
        have e : zLoop K S zAdd (zPr K S u) (m + 1) y = y := by
          show (if _ then _ else _) = _
          rw [if_neg q]
        rw [e]
        exact w_X1_takeSum_83 ⟨rfl, rfl, rfl, f, g⟩
      refine w_X1_takeSum_7 (fun q => absurd (i_lt.mp q) (by rw [show (400 : Int32).toInt = 400 from rfl]; omega)) (fun _ => w_X1_takeSum_14 (fun q => stop (fun w => q (by rw [h4]; exact w.1))) (fun q => ?_))
      have hf : pf y = 0 := by rw [← h4]; exact q
      have ek := (hz hf).2
      have go : zAdd (K (pt y)) = true → wkB l G (d + 2 + 1) n_X1_takeSum (fun r t I' L' R' => t = 336 ∧ r = none ∧ cPo o K S N I L R (zLoop K S zAdd (zPr K S u) (m + 1) y) I' L' R') 39 [.ref 3, .int a1, .int a2, wkU] [] J M R := fun hm' => by
        have e : zLoop K S zAdd (zPr K S u) (m + 1) y = zLoop K S zAdd (zPr K S u) m (zPr K S u (zTake S true y)) := by
          show (if _ then _ else _) = _
          rw [if_pos ⟨hf, hm'⟩]
        rw [e]
        have rest : ∀ s : Int32, wkB l G (d + 2 + 1) n_X1_takeSum (fun r t I' L' R' => t = 336 ∧ r = none ∧ cPo o K S N I L R (zLoop K S zAdd (zPr K S u) m (zPr K S u (zTake S true y))) I' L' R') 53 [.ref 3, .int a1, .int a2, wkU] [.int s] J M R := by
          intro s
          refine w_X1_takeSum_53 (cTakeH (d := d + 1) ho hR g (Or.inr rfl) (c := true) (fun _ => rfl)) (fun I1 L1 R1 hq => ?_)
          obtain ⟨rfl, f1, g1⟩ := hq
          refine w_X1_takeSum_59 (cProd ho hR hu g1) (fun I2 L2 R2 hq => ?_)
          obtain ⟨rfl, f2, g2⟩ := hq
          refine w_X1_takeSum_64 ho hR.1.2 hR.2.2.1.2.2.2.2.2 (cEmit (d := d + 1) ho hR g2) (fun y3 I3 L3 R3 hq => ?_)
          obtain ⟨rfl, f3, g3⟩ := hq
          exact w_X1_takeSum_76 (ih (a2 + 1) I3 L3 _ (by omega) (by omega) (cF_tr f (cF_tr f1 (cF_tr f2 f3))) g3)
        exact w_X1_takeSum_39 (fun _ => w_X1_takeSum_52 (rest 3)) (fun _ => w_X1_takeSum_48 (rest 2))
      exact w_X1_takeSum_21 (fun q => go (decide_eq_true (Or.inl (ek.symm.trans q)))) (fun q1 => w_X1_takeSum_30 (fun q2 => stop (fun w => by rcases of_decide_eq_true w.2 with e | e; exact q1 (ek.trans e); exact q2 (ek.trans e))) (fun q => go (decide_eq_true (Or.inr (ek.symm.trans q)))))
  refine wkC_of 2 (by decide) (Nat.le_of_ble_eq_true rfl) (w_X1_takeSum_0 (cProd ho hR hu h) (fun I1 L1 R1 hq => ?_))
  obtain ⟨rfl, f1, g1⟩ := hq
  exact w_X1_takeSum_5 (loop 401 0 I1 L1 _ (by rfl) (by decide) f1 g1)
/-- take, if the token is this one -/
theorem cMustB (h : cH o K S N I L z) {k : Int32} (hf : pf z = 0) (q : I 3 3 = k) : decide ((1 : Int32) = 1) = decide (K (pt z) = k) := by
  rw [← (cAt h).2.2 hf |>.2, decide_eq_true q]
  rfl
theorem cMustN (h : cH o K S N I L z) {k : Int32} (hf : pf z = 0) (q : ¬ I 3 3 = k) : decide ((0 : Int32) = 1) = decide (K (pt z) = k) := by
  rw [← (cAt h).2.2 hf |>.2, decide_eq_false q]
  rfl
theorem cUnit (ho : o = 9 ∨ o = 259) (hR : cRf R o) : ∀ (e : Nat), e ≤ 6 → ∀ (a1 : Int32), a1.toInt = 6 - e → ∀ (I : qMI) (L : qML) (z : pZ), cH o K S N I L z → wkCv l G (d + (3 * e + 2)) n_X1_takeUnit [.ref 3, .int a1] I L R (cPo o K S N I L R (zUn K S e z)) := by
  have base : ∀ (D : Nat) (a1 : Int32) (I : qMI) (L : qML) (z z' : pZ), cH o K S N I L z → (pf z ≠ 0 → z' = z) → (pf z = 0 → (K (pt z) = 3 ∨ (142 ≤ K (pt z) ∧ K (pt z) < 151)) → z' = zTake S true z) → (pf z = 0 → ¬ (K (pt z) = 3 ∨ (142 ≤ K (pt z) ∧ K (pt z) < 151)) → wkB l G (D + 1 + 1) n_X1_takeUnit (fun r t I' L' R' => t = 336 ∧ r = none ∧ cPo o K S N I L R z' I' L' R') 97 [.ref 3, .int a1] [] I L R) → wkCv l G (D + 2) n_X1_takeUnit [.ref 3, .int a1] I L R (cPo o K S N I L R z') := by
    intro D a1 I L z z' h c1 c2 c3
    obtain ⟨v1, h4, hz⟩ := cAt h
    refine wkC_of 0 (by decide) (Nat.le_of_ble_eq_true rfl) (w_X1_takeUnit_0 (fun q => ?_) (fun q => ?_))
    · have hf : pf z = 0 := by rw [← h4]; exact q
      have ek := (hz hf).2
      have no : ¬ I 3 3 = 3 → ¬ (¬ I 3 3 < 142 ∧ ¬ 151 ≤ I 3 3) → wkB l G (D + 1 + 1) n_X1_takeUnit (fun r t I' L' R' => t = 336 ∧ r = none ∧ cPo o K S N I L R z' I' L' R') 97 [.ref 3, .int a1] [] I L R := fun q1 q2 => c3 hf (fun w => by
        rw [← ek] at w
        rcases w with w | ⟨w1, w2⟩
        · exact q1 w
        · exact q2 ⟨Int32.not_lt.mpr w1, Int32.not_le.mpr w2⟩)
      refine w_X1_takeUnit_8 (fun q1 => w_X1_takeUnit_49 (fun q2 => no q1 (fun w => w.1 q2)) (fun q2 => w_X1_takeUnit_59 (fun q3 => no q1 (fun w => w.2 q3)) (fun q3 => ?_))) (fun q1 => ?_)
      · have e := c2 hf (Or.inr (by rw [← ek]; exact ⟨Int32.not_lt.mp q2, Int32.not_le.mp q3⟩))
        rw [e]
        refine w_X1_takeUnit_69 ho hR.1.2 hR.2.2.1.2.2.2.2.2 (cEmit (d := D) ho hR h) (fun y I1 L1 R1 hq => ?_)
        obtain ⟨rfl, f1, g1⟩ := hq
        refine w_X1_takeUnit_88 (cTakeH (d := D) ho hR g1 (Or.inr rfl) (c := true) (fun _ => rfl)) (fun I2 L2 R2 hq => ?_)
        obtain ⟨rfl, f2, g2⟩ := hq
        exact w_X1_takeUnit_94 (w_X1_takeUnit_163 ⟨rfl, rfl, rfl, cF_tr f1 f2, g2⟩)
      · have e := c2 hf (Or.inl (by rw [← ek]; exact q1))
        rw [e]
        refine w_X1_takeUnit_16 ho hR.1.2 hR.2.2.1.2.2.2.2.2 hR.1.1 hR.2.1.2.2.2 v1 (cEmit (d := D) ho hR h) (fun y I1 L1 R1 hq => ?_)
        obtain ⟨rfl, f1, g1⟩ := hq
        refine w_X1_takeUnit_40 (cTakeH (d := D) ho hR g1 (Or.inr rfl) (c := true) (fun _ => rfl)) (fun I2 L2 R2 hq => ?_)
        obtain ⟨rfl, f2, g2⟩ := hq
        exact w_X1_takeUnit_46 (w_X1_takeUnit_163 ⟨rfl, rfl, rfl, cF_tr f1 f2, g2⟩)
    · rw [c1 (fun e => q (by rw [h4]; exact e))]
      exact w_X1_takeUnit_7 ⟨rfl, rfl, rfl, cF_rf o I L, h⟩
  have bad : ∀ (D : Nat) (a1 : Int32) (I : qMI) (L : qML) (z z' : pZ), cH o K S N I L z → pf z = 0 → z' = zFail S (if K (pt z) = 40 then 2 else 1) z → wkB l G (D + 1 + 1) n_X1_takeUnit (fun r t I' L' R' => t = 336 ∧ r = none ∧ cPo o K S N I L R z' I' L' R') 145 [.ref 3, .int a1] [] I L R := by
    intro D a1 I L z z' h hf e
    have ek := ((cAt h).2.2 hf).2
    rw [e]
    have fin : ∀ w : Int32, w ≠ 0 → w = (if K (pt z) = 40 then 2 else 1) → wkB l G (D + 1 + 1) n_X1_takeUnit (fun r t I' L' R' => t = 336 ∧ r = none ∧ cPo o K S N I L R (zFail S (if K (pt z) = 40 then 2 else 1) z) I' L' R') 160 [.ref 3, .int a1] [.int w, .ref 3] I L R := by
      intro w hw ew
      rw [← ew]
      refine w_X1_takeUnit_160 (cFailH (d := D) ho hR h hw) (fun I2 L2 R2 hq => ?_)
      obtain ⟨rfl, f2, g2⟩ := hq
      exact w_X1_takeUnit_163 ⟨rfl, rfl, rfl, f2, g2⟩
    exact w_X1_takeUnit_145 (fun q => w_X1_takeUnit_159 (fin 1 (by decide) (by rw [if_neg (fun x => q (ek.trans x))]))) (fun q => w_X1_takeUnit_155 (fin 2 (by decide) (by rw [if_pos (ek.symm.trans q)])))
  intro e
  induction e with
  | zero =>
    intro he a1 ha I L z h
    refine base d a1 I L z _ h (fun q => ?_) (fun q1 q2 => ?_) (fun q1 q2 => ?_)
    · unfold zUn
      rw [if_neg q]
    · unfold zUn
      rw [if_pos q1, if_pos q2]
    · have ez : zUn K S 0 z = zFail S (if K (pt z) = 40 then 2 else 1) z := by
        unfold zUn
        rw [if_pos q1, if_neg q2]
      exact w_X1_takeUnit_97 (fun _ => bad d a1 I L z _ h q1 ez) (fun _ => w_X1_takeUnit_106 (fun _ => bad d a1 I L z _ h q1 ez) (fun q => absurd (i_le.mpr (by rw [show (6 : Int32).toInt = 6 from rfl]; omega)) q))
  | succ e ih =>
    intro he a1 ha I L z h
    have ea : (a1 + 1).toInt = 6 - e := by rw [i_s (by omega)]; omega
    have hu := fun I L z h => ih (by omega) (a1 + 1) ea I L z h
    refine base (d + (3 * e + 3)) a1 I L z _ h (fun q => ?_) (fun q1 q2 => ?_) (fun q1 q2 => ?_)
    · unfold zUn
      rw [if_neg q]
    · unfold zUn
      rw [if_pos q1, if_pos q2]
    · have ek := ((cAt h).2.2 q1).2
      refine w_X1_takeUnit_97 (fun q => bad (d + (3 * e + 3)) a1 I L z _ h q1 ?_) (fun q => w_X1_takeUnit_106 (fun q6 => absurd (i_le.mp q6) (by rw [show (6 : Int32).toInt = 6 from rfl]; omega)) (fun _ => ?_))
      · have q' : ¬ K (pt z) = 40 := fun x => q (ek.trans x)
        unfold zUn
        rw [if_pos q1, if_neg q2, if_neg q', if_neg q']
      · have ez : zUn K S (e + 1) z = zTake S (decide (K (pt (zSu K S (zUn K S e) (zTake S true z))) = 41)) (zSu K S (zUn K S e) (zTake S true z)) := by
          rw [zUn, if_pos q1, if_neg q2, if_pos (ek.symm.trans q)]
        rw [ez]
        refine w_X1_takeUnit_112 (cTakeH (d := d + (3 * e + 3)) ho hR h (Or.inr rfl) (c := true) (fun _ => rfl)) (fun I1 L1 R1 hq => ?_)
        obtain ⟨rfl, f1, g1⟩ := hq
        refine w_X1_takeUnit_117 (cSum (d := d + (3 * e + 1)) ho hR hu g1) (fun I2 L2 R2 hq => ?_)
        obtain ⟨rfl, f2, g2⟩ := hq
        have fin : ∀ b : Int32, (b = 0 ∨ b = 1) → (pf (zSu K S (zUn K S e) (zTake S true z)) = 0 → decide (b = 1) = decide (K (pt (zSu K S (zUn K S e) (zTake S true z))) = 41)) → wkB l G (d + (3 * e + 3) + 1 + 1) n_X1_takeUnit (fun r t I' L' R' => t = 336 ∧ r = none ∧ cPo o K S N I L R (zTake S (decide (K (pt (zSu K S (zUn K S e) (zTake S true z))) = 41)) (zSu K S (zUn K S e) (zTake S true z))) I' L' R') 139 [.ref 3, .int a1] [.int b, .ref 3] I2 L2 R := by
          intro b hb hc
          refine w_X1_takeUnit_139 (cTakeH (d := d + (3 * e + 3)) ho hR g2 hb hc) (fun I3 L3 R3 hq => ?_)
          obtain ⟨rfl, f3, g3⟩ := hq
          exact w_X1_takeUnit_142 (w_X1_takeUnit_163 ⟨rfl, rfl, rfl, cF_tr f1 (cF_tr f2 f3), g3⟩)
        exact w_X1_takeUnit_124 (fun q => w_X1_takeUnit_138 (fin 0 (Or.inl rfl) (fun hf => cMustN g2 hf q))) (fun q => w_X1_takeUnit_134 (fin 1 (Or.inr rfl) (fun hf => cMustB g2 hf q)))
theorem cExpr (ho : o = 9 ∨ o = 259) (hR : cRf R o) (h : cH o K S N I L z) : wkCv l G (d + 22) n_X1_takeSum [.ref 3, .int 0] I L R (cPo o K S N I L R (zEx K S z)) := cSum (d := d + 19) ho hR (fun I L z h => cUnit (d := d) ho hR 6 (Nat.le_refl _) 0 (by rfl) I L z h) h
end
