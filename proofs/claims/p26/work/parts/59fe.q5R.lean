/-! ===== lentIn, year: the reference's ===== -/
section
variable {l : Launch} {G : qG} {d : Nat} {I : qMI} {L : qML} {R : qMR} {v n : Nat} {A : aD} {f : Nat → Int32} {h sl : Nat → Nat → Int32}
theorem uLentIn (hR : wkR R) (hs : rS v A f n h sl I) (hA : aOk A) (hf : fOk A f) {x y m : Int32} : wkI l G (d + 10) n_X9_lentIn [.ref 292, .int x, .int y, .int m] I L R (fun z I' L' => L' = L ∧ z = qLentIn A f x y m ∧ rS v A f n h sl I' ∧ rMf I I') := by
  obtain ⟨hL, s1, s2, s3⟩ := id hs
  have n6 := hA.1
  have bad : ¬ (okS A x ∧ okT A y ∧ okH m) → wkB l G (d + 9 + 1) n_X9_lentIn (wkPI R (fun z I' L' => L' = L ∧ z = qLentIn A f x y m ∧ rS v A f n h sl I' ∧ rMf I I')) 23 [.ref 292, .int x, .int y, .int m] [] I L R := fun c => w_X9_lentIn_23 ⟨rfl, rfl, _, rfl, rfl, by unfold qLentIn; rw [if_pos c], hs, rMf_rf I⟩
  refine wkC_of 0 (by decide) (Nat.le_of_ble_eq_true rfl) (w_X9_lentIn_0 (uIsSeat (d := d + 7) hR hL) (fun z I1 L1 hq => ?_))
  obtain ⟨rfl, rfl, rfl⟩ := hq
  refine w_X9_lentIn_5 (fun q => bad (fun c => if1.1 q c.1)) (fun q => w_X9_lentIn_8 (uIsThing (d := d + 7) hR hL) (fun z I1 L1 hq => ?_))
  obtain ⟨rfl, rfl, rfl⟩ := hq
  refine w_X9_lentIn_13 (fun q2 => bad (fun c => if1.1 q2 c.2.1)) (fun q2 => w_X9_lentIn_16 (uIsLong (d := d + 7)) (fun z I1 L1 hq => ?_))
  obtain ⟨rfl, rfl, rfl⟩ := hq
  refine w_X9_lentIn_20 (fun q3 => ?_) (fun q3 => bad (fun c => if1.1 q3 c.2.2))
  have c0 : okS A x ∧ okT A y ∧ okH m := ⟨if1.2 q, if1.2 q2, if1.2 q3⟩
  have x0 := c0.1
  have y0 := c0.2.1
  have m0 := c0.2.2
  have ha : x.toInt = x.toInt.toNat := by omega
  have he : y.toInt = y.toInt.toNat := by omega
  have la := ln_t ha he (by omega) (by omega)
  have c24 : ((24 + (6 * x)) + y).toNatClampNeg = 24 + (6 * x.toInt.toNat + y.toInt.toNat) := by rw [tcn]; omega
  refine w_X9_lentIn_25 (uCopies (d := d + 8) hR hL s1) (fun I2 L2 hq => ?_)
  obtain ⟨rfl, f2, g2, e50, e2⟩ := hq
  have hs2 := rS_cp hs f2 g2
  refine w_X9_lentIn_29 (uGoes (d := d) hR hs2.1 hA hf e2 e50 (n := m.toInt.toNat) (by omega)) (fun I3 L3 hq => ?_)
  obtain ⟨rfl, f3, e3⟩ := hq
  have hs3 := rS_g hs2 f3
  have r3 := rMf_tr (rMf_cp g2) (rMf_g f3)
  have el : I3 324 (24 + (6 * x.toInt.toNat + y.toInt.toNat)) = qAh A f m (24 + lnI x y) := e3 _ (by omega)
  refine w_X9_lentIn_34 hR (vin (by omega) (by omega)) (fun q5 => w_X9_lentIn_56 hR (vin (by omega) (by omega)) (w_X9_lentIn_70 ⟨rfl, rfl, _, rfl, rfl, ?_, hs3, r3⟩)) (fun q5 => w_X9_lentIn_51 (w_X9_lentIn_70 ⟨rfl, rfl, _, rfl, rfl, ?_, hs3, r3⟩))
  · rw [c24, el] at q5
    unfold qLentIn
    rw [if_neg (fun z => z c0), if_neg q5, c24, el]
  · rw [c24, el] at q5
    unfold qLentIn
    rw [if_neg (fun z => z c0), if_pos q5]
theorem uYearL (hR : wkR R) (hA : aOk A) (hf : fOk A f) {Q : qQ} {x y m s : Int32} {a e : Nat} (ha : x.toInt = a) (he : y.toInt = e) (hA1 : a < A.2.1.length) (hE : e < A.1.length) (hm : okH m) : ∀ (i j : Nat) (t acc : Int32) (J : qMI), j + i = s.toInt.toNat → t.toInt = j → rS v A f n h sl J → rMf I J → (∀ J' : qMI, rS v A f n h sl J' → rMf I J' → Q (some (.int (qY A f (6 * a + e) m i t acc))) 336 J' L R) → wkB l G (d + 9 + 1) n_X9_year Q 42 [.ref 292, .int x, .int y, .int m, .int s, .int acc, .int t] [] J L R := by
  have n6 := hA.1
  have la := ln_t ha he (by omega) (by omega)
  have c24 : ((24 + (6 * x)) + y).toNatClampNeg = 24 + (6 * a + e) := by rw [tcn]; omega
  have hi := i_hi s
  intro i
  induction i with
  | zero =>
    intro j t acc J hn hy hs hJ q0
    exact w_X9_year_42 (fun _ => w_X9_year_95 (q0 J hs hJ)) (fun q => absurd (i_le.mpr (by omega)) q)
  | succ i ih =>
    intro j t acc J hn hy hs hJ q0
    have t1 : (t + 1).toInt = ((j + 1 : Nat) : Int) := by rw [i_s (by omega)]; omega
    refine w_X9_year_42 (fun q => absurd (i_le.mp q) (by omega)) (fun _ => w_X9_year_49 (uCopies (d := d + 8) hR hs.1 hs.2.1) (fun I2 L2 hq => ?_))
    obtain ⟨rfl, f2, g2, e50, e2⟩ := hq
    have hs2 := rS_cp hs f2 g2
    have r2 := rMf_tr hJ (rMf_cp g2)
    have u1 : ∀ k, k ≠ 292 → qUp I2 292 50 (I2 292 50 + t) k = I2 k := fun k hk => qUp_ro hk
    have u2 : ∀ j, j ≠ 50 → qUp I2 292 50 (I2 292 50 + t) 292 j = I2 292 j := fun j hj => by rw [qUp_at, if_neg (fun z => hj z.2)]
    have u3 : qUp I2 292 50 (I2 292 50 + t) 292 50 = A.2.2.1 11 + t := by rw [qUp_at, if_pos ⟨rfl, rfl⟩, e50]
    have hs3 := rS_cp hs2 (fun k _ b => u1 k b) u2
    have r3 := rMf_tr r2 (rMf_cp u2)
    have e3 : rEq (qUp I2 292 50 (I2 292 50 + t)) 324 f := rEq_of e2 (u1 324 (by decide))
    refine w_X9_year_53 (uGoes (d := d) hR hs3.1 hA hf e3 u3 (n := m.toInt.toNat) (by omega)) (fun I4 L4 hq => ?_)
    obtain ⟨rfl, f4, e4⟩ := hq
    have hs4 := rS_g hs3 f4
    have r4 := rMf_tr r3 (rMf_g f4)
    have lb := ((fOk_go hA (s := A.2.2.1 11 + t) (wn := A.2.2.1 9) m.toInt.toNat _ hf).2.2.1 (6 * a + e) (by omega)).1
    refine w_X9_year_69 hR (vin (by omega) (by omega)) (fun q6 => w_X9_year_89 (ih (j + 1) _ _ I4 (by omega) t1 hs4 r4 (fun J' j1 j2 => ?_))) (fun q6 => w_X9_year_86 (w_X9_year_89 (ih (j + 1) _ _ I4 (by omega) t1 hs4 r4 (fun J' j1 j2 => ?_))))
    · rw [c24, e4 _ (by omega)] at q6
      have := q0 J' j1 j2
      rw [qY, if_pos ((le0 lb).mp q6), Int32.add_zero] at this
      exact this
    · rw [c24, e4 _ (by omega)] at q6
      have := q0 J' j1 j2
      rw [qY, if_neg (fun z => q6 ((le0 lb).mpr z))] at this
      exact this
theorem uYear (hR : wkR R) (hs : rS v A f n h sl I) (hA : aOk A) (hf : fOk A f) {x y m s : Int32} : wkI l G (d + 10) n_X9_year [.ref 292, .int x, .int y, .int m, .int s] I L R (fun z I' L' => L' = L ∧ z = qYear A f x y m s ∧ rS v A f n h sl I' ∧ rMf I I') := by
  obtain ⟨hL, s1, s2, s3⟩ := id hs
  have n6 := hA.1
  have z1 : (1 : Int32).toInt = 1 := rfl
  have z20 : (20 : Int32).toInt = 20 := rfl
  have bad : ¬ (okS A x ∧ okT A y ∧ okH m ∧ 1 ≤ s.toInt ∧ s.toInt ≤ 20) → wkB l G (d + 9 + 1) n_X9_year (wkPI R (fun z I' L' => L' = L ∧ z = qYear A f x y m s ∧ rS v A f n h sl I' ∧ rMf I I')) 34 [.ref 292, .int x, .int y, .int m, .int s, wkU, wkU] [] I L R := fun c => w_X9_year_34 ⟨rfl, rfl, _, rfl, rfl, by unfold qYear; rw [if_pos c], hs, rMf_rf I⟩
  refine wkC_of 2 (by decide) (Nat.le_of_ble_eq_true rfl) (w_X9_year_0 (uIsSeat (d := d + 7) hR hL) (fun z I1 L1 hq => ?_))
  obtain ⟨rfl, rfl, rfl⟩ := hq
  refine w_X9_year_5 (fun q => bad (fun c => if1.1 q c.1)) (fun q => w_X9_year_8 (uIsThing (d := d + 7) hR hL) (fun z I1 L1 hq => ?_))
  obtain ⟨rfl, rfl, rfl⟩ := hq
  refine w_X9_year_13 (fun q2 => bad (fun c => if1.1 q2 c.2.1)) (fun q2 => w_X9_year_16 (uIsLong (d := d + 7)) (fun z I1 L1 hq => ?_))
  obtain ⟨rfl, rfl, rfl⟩ := hq
  refine w_X9_year_20 (fun q3 => bad (fun c => if1.1 q3 c.2.2.1)) (fun q3 => w_X9_year_23 (uIn (d := d + 8)) (fun z I1 L1 hq => ?_))
  obtain ⟨rfl, rfl, rfl⟩ := hq
  refine w_X9_year_31 (fun q4 => ?_) (fun q4 => bad (fun c => if1.1 q4 (by rw [z1, z20]; exact c.2.2.2)))
  have c4 := if1.2 q4
  rw [z1, z20] at c4
  have c0 : okS A x ∧ okT A y ∧ okH m ∧ 1 ≤ s.toInt ∧ s.toInt ≤ 20 := ⟨if1.2 q, if1.2 q2, if1.2 q3, c4⟩
  have x0 := c0.1
  have y0 := c0.2.1
  refine w_X9_year_36 (uYearL (d := d) (I := I1) hR hA hf (a := x.toInt.toNat) (e := y.toInt.toNat) (by omega) (by omega) (by omega) (by omega) c0.2.2.1 s.toInt.toNat 0 0 0 I1 (by omega) rfl hs (rMf_rf I1) (fun J' j1 j2 => ⟨rfl, rfl, _, rfl, rfl, ?_, j1, j2⟩))
  unfold qYear lnI
  rw [if_neg (fun z => z c0)]
end
