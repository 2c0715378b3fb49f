/-! ===== the reference's tape ===== -/
def yTp (I I' : qMI) : Prop := (∀ k, k ≠ 292 → k ≠ 293 → I' k = I k) ∧ ∀ j, j ≠ 2 → I' 292 j = I 292 j
theorem yTp_rf (I : qMI) : yTp I I := ⟨fun _ _ _ => rfl, fun _ _ => rfl⟩
theorem yTp_tr {I J K : qMI} (h : yTp I J) (g : yTp J K) : yTp I K := ⟨fun k a b => (g.1 k a b).trans (h.1 k a b), fun j a => (g.2 j a).trans (h.2 j a)⟩
theorem yTp_up {I : qMI} {k i : Nat} {x : Int32} (h : k = 293 ∨ (k = 292 ∧ i = 2)) : yTp I (qUp I k i x) := ⟨fun a _ _ => funext fun j => qUp_ne (fun q => by omega), fun j _ => qUp_ne (fun q => by omega)⟩
section
variable {l : Launch} {G : qG} {d : Nat} {I : qMI} {L : qML} {R : qMR}
theorem yPut (hR : wkR R) {x : Int32} (h0 : 0 ≤ (I 292 2).toInt) (h1 : (I 292 2).toInt ≤ 1996) : wkV l G (d + 1) n_X9_put [.ref 292, .int x] I L R (fun I' L' => L' = L ∧ yTp I I' ∧ (I' 292 2).toInt = (I 292 2).toInt + 4) := by
  have step : ∀ (J : qMI) (n : Int32), ¬ n < 0 → 0 ≤ (J 292 2).toInt → (J 292 2).toInt < 2000 → (∀ J2 : qMI, yTp J J2 → (J2 292 2).toInt = (J 292 2).toInt + 1 → wkB l G (d + 1) n_X9_put (wkPV R (fun I' L' => L' = L ∧ yTp I I' ∧ (I' 292 2).toInt = (I 292 2).toInt + 4)) 3 [.ref 292, .int x, .int (n + (-8))] [] J2 L R) → wkB l G (d + 1) n_X9_put (wkPV R (fun I' L' => L' = L ∧ yTp I I' ∧ (I' 292 2).toInt = (I 292 2).toInt + 4)) 3 [.ref 292, .int x, .int n] [] J L R := fun J n hn j0 j1 k => w_X9_put_3 (fun q => absurd q hn) (fun _ => w_X9_put_7 hR (vin j0 (by omega)) (k _ (yTp_tr (yTp_up (Or.inl rfl)) (yTp_up (Or.inr ⟨rfl, rfl⟩))) (by rw [qUp_at, if_pos ⟨rfl, rfl⟩, qUp_ne (by omega), i_s (by omega)])))
  refine wkC_of 1 (by decide) (Nat.le_of_ble_eq_true rfl) (w_X9_put_0 ?_)
  exact step I 24 (by decide) h0 (by omega) fun J1 t1 e1 => step J1 _ (by decide) (by omega) (by omega) fun J2 t2 e2 => step J2 _ (by decide) (by omega) (by omega) fun J3 t3 e3 => step J3 _ (by decide) (by omega) (by omega) fun J4 t4 e4 => w_X9_put_3 (fun _ => w_X9_put_36 ⟨rfl, rfl, rfl, rfl, yTp_tr t1 (yTp_tr t2 (yTp_tr t3 t4)), by omega⟩) (fun q => absurd (by decide) q)
theorem yFeed (hR : wkR R) {x1 x2 x3 x4 x5 : Int32} (h0 : 0 ≤ (I 292 2).toInt) (h1 : (I 292 2).toInt ≤ 2000) : wkI l G (d + 2) n_X9_feed [.ref 292, .int x1, .int x2, .int x3, .int x4, .int x5] I L R (fun y I' L' => L' = L ∧ yTp I I' ∧ (((I 292 2).toInt ≤ 1980 ∧ (I' 292 2).toInt = (I 292 2).toInt + 20 ∧ y = I' 292 2) ∨ (1980 < (I 292 2).toInt ∧ I' = I ∧ y = -1))) := by
  have e20 : (I 292 2 + 20).toInt = (I 292 2).toInt + 20 := i_add (y := 20) (by rw [show (20 : Int32).toInt = 20 from rfl]; omega) (by rw [show (20 : Int32).toInt = 20 from rfl]; omega)
  refine wkC_of 0 (by decide) (Nat.le_of_ble_eq_true rfl) (w_X9_feed_0 (fun q => ?_) (fun q => ?_))
  · have q := i_le.mp q
    rw [e20, show (2000 : Int32).toInt = 2000 from rfl] at q
    refine w_X9_feed_15 (yPut (d := d) hR h0 (by omega)) (fun J1 L1 hq => ?_)
    obtain ⟨rfl, t1, e1⟩ := hq
    refine w_X9_feed_20 (yPut (d := d) hR (by omega) (by omega)) (fun J2 L2 hq => ?_)
    obtain ⟨rfl, t2, e2⟩ := hq
    refine w_X9_feed_25 (yPut (d := d) hR (by omega) (by omega)) (fun J3 L3 hq => ?_)
    obtain ⟨rfl, t3, e3⟩ := hq
    refine w_X9_feed_30 (yPut (d := d) hR (by omega) (by omega)) (fun J4 L4 hq => ?_)
    obtain ⟨rfl, t4, e4⟩ := hq
    refine w_X9_feed_36 (yPut (d := d) hR (by omega) (by omega)) (fun J5 L5 hq => ?_)
    obtain ⟨rfl, t5, e5⟩ := hq
    exact w_X9_feed_42 ⟨rfl, rfl, _, rfl, rfl, yTp_tr t1 (yTp_tr t2 (yTp_tr t3 (yTp_tr t4 t5))), Or.inl ⟨by omega, by omega, rfl⟩⟩
  · have q : ¬ _ := fun z => q (i_le.mpr z)
    rw [e20, show (2000 : Int32).toInt = 2000 from rfl] at q
    exact w_X9_feed_13 ⟨rfl, rfl, _, rfl, rfl, yTp_rf I, Or.inr ⟨by omega, rfl, rfl⟩⟩
theorem yBack {x : Int32} (h0 : 0 ≤ (I 292 2).toInt) (h1 : (I 292 2).toInt ≤ 2000) : wkI l G (d + 1) n_X9_back [.ref 292, .int x] I L R (fun y I' L' => L' = L ∧ yTp I I' ∧ (((0 ≤ x.toInt ∧ x.toInt ≤ (I 292 2).toInt) ∧ (I' 292 2).toInt = (I 292 2).toInt - x.toInt ∧ y = I' 292 2) ∨ (¬ (0 ≤ x.toInt ∧ x.toInt ≤ (I 292 2).toInt) ∧ I' = I ∧ y = -1))) := by
  refine wkC_of 0 (by decide) (Nat.le_of_ble_eq_true rfl) (w_X9_back_0 (fun q => ?_) (fun q => ?_))
  · have q := i_lt.mp q
    rw [show (0 : Int32).toInt = 0 from rfl] at q
    exact w_X9_back_12 ⟨rfl, rfl, _, rfl, rfl, yTp_rf I, Or.inr ⟨by omega, rfl, rfl⟩⟩
  · have q : ¬ _ := fun z => q (i_lt.mpr z)
    rw [show (0 : Int32).toInt = 0 from rfl] at q
    refine w_X9_back_4 (fun z => ?_) (fun z => ?_)
    · have z := i_le.mp z
      exact w_X9_back_14 ⟨rfl, rfl, _, rfl, rfl, yTp_up (Or.inr ⟨rfl, rfl⟩), Or.inl ⟨by omega, by rw [qUp_at, if_pos ⟨rfl, rfl⟩, i_sub (by omega) (by omega)], rfl⟩⟩
    · have z : ¬ _ := fun w => z (i_le.mpr w)
      exact w_X9_back_12 ⟨rfl, rfl, _, rfl, rfl, yTp_rf I, Or.inr ⟨by omega, rfl, rfl⟩⟩
end
