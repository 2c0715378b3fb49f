/-! ===== the reference's parser: the token that it stands at ===== -/
/-- only the token's place and the faults are others -/
def yT (I I' : qMI) : Prop := (∀ k, k ≠ 292 → I' k = I k) ∧ (∀ j, j ≠ 11 → j ≠ 13 → j ≠ 14 → j ≠ 15 → j ≠ 16 → I' 292 j = I 292 j)
theorem yT_rf (I : qMI) : yT I I := ⟨fun _ _ => rfl, fun _ _ _ _ _ _ => rfl⟩
theorem yT_tr {I J K : qMI} (h : yT I J) (g : yT J K) : yT I K := ⟨fun k a => (g.1 k a).trans (h.1 k a), fun j a b c d e => (g.2 j a b c d e).trans (h.2 j a b c d e)⟩
theorem yT_up {I : qMI} {j : Nat} {x : Int32} (hj : j = 11 ∨ j = 13 ∨ j = 14 ∨ j = 15 ∨ j = 16) : yT I (qUp I 292 j x) := ⟨fun k a => funext fun i => qUp_ne (fun q => a q.1), fun i a b c d e => qUp_ne (fun q => by omega)⟩
/-- all is in its bounds -/
def yOk (I : qMI) : Prop := (0 ≤ (I 292 11).toInt ∧ (I 292 11).toInt ≤ 400) ∧ (0 ≤ (I 292 13).toInt ∧ (I 292 13).toInt ≤ 2)
/-- so far on, and a fault stays -/
def yS (I I' : qMI) : Prop := yT I I' ∧ yOk I' ∧ (I 292 11).toInt ≤ (I' 292 11).toInt ∧ (I 292 13 ≠ 0 → I' 292 13 ≠ 0)
theorem yS_rf {I : qMI} (h : yOk I) : yS I I := ⟨yT_rf I, h, Int.le_refl _, id⟩
theorem yS_tr {I J K : qMI} (h : yS I J) (g : yS J K) : yS I K := ⟨yT_tr h.1 g.1, g.2.1, Int.le_trans h.2.2.1 g.2.2.1, fun q => g.2.2.2 (h.2.2.2 q)⟩
theorem yS_f0 {I I' : qMI} (h : yS I I') (q : I' 292 13 = 0) : I 292 13 = 0 := Decidable.byContradiction fun n => h.2.2.2 n q
/-- and one token on, if there is no fault -/
def yN (I I' : qMI) : Prop := yS I I' ∧ (I' 292 13 = 0 → (I' 292 11).toInt = (I 292 11).toInt + 1)
theorem yOk_t {I : qMI} (h : yOk I) : vp_in (I 292 11) 403 := vin h.1.1 (by have := h.1.2; omega)
section
variable {l : Launch} {G : qG} {d : Nat} {I : qMI} {L : qML} {R : qMR}
theorem yFail (hR : wkR R) (hk : yOk I) {k : Int32} (h1 : 1 ≤ k.toInt) (h2 : k.toInt ≤ 2) : wkV l G (d + 1) n_X9_fail [.ref 292, .int k] I L R (fun I' L' => L' = L ∧ yS I I' ∧ I' 292 13 ≠ 0 ∧ I' 292 11 = I 292 11) := by
  refine wkC_of 0 (by decide) (Nat.le_of_ble_eq_true rfl) (w_X9_fail_0 (fun hf => w_X9_fail_8 hR ?_ ⟨rfl, rfl, rfl, rfl, ?_, ?_, ?_⟩) (fun hf => w_X9_fail_7 ⟨rfl, rfl, rfl, rfl, yS_rf hk, fun q => hf (by rw [q]; decide), rfl⟩))
  · rw [qUp_ne (by omega)]
    exact yOk_t hk
  · refine ⟨yT_tr (yT_up (j := 13) (by omega)) (yT_up (j := 14) (by omega)), ⟨?_, ?_⟩, ?_, fun _ => ?_⟩
    · rw [qUp_ne (by omega), qUp_ne (by omega)]
      exact hk.1
    · rw [qUp_ne (by omega), qUp_at, if_pos ⟨rfl, rfl⟩]
      omega
    · rw [qUp_ne (by omega), qUp_ne (by omega)]
      exact Int.le_refl _
    · rw [qUp_ne (by omega), qUp_at, if_pos ⟨rfl, rfl⟩]
      exact fun q => by rw [q] at h1; exact absurd h1 (by decide)
  · rw [qUp_ne (by omega), qUp_at, if_pos ⟨rfl, rfl⟩]
    exact fun q => by rw [q] at h1; exact absurd h1 (by decide)
  · rw [qUp_ne (by omega), qUp_ne (by omega)]
theorem yIs (hR : wkR R) (hk : yOk I) {k : Int32} : wkI l G (d + 1) n_X9_is [.ref 292, .int k] I L R (fun y I' L' => L' = L ∧ I' = I ∧ ((y = 1 ∧ I 292 13 = 0 ∧ I 295 (I 292 11).toNatClampNeg = k) ∨ (y = 0 ∧ ¬ (I 292 13 = 0 ∧ I 295 (I 292 11).toNatClampNeg = k)))) := by
  refine wkC_of 0 (by decide) (Nat.le_of_ble_eq_true rfl) (w_X9_is_0 (fun hf => w_X9_is_24 (w_X9_is_25 ⟨rfl, rfl, _, rfl, rfl, rfl, Or.inr ⟨rfl, fun q => hf q.1⟩⟩ (Or.inl rfl))) (fun hf => w_X9_is_7 hR (yOk_t hk) (fun h => w_X9_is_24 (w_X9_is_25 ⟨rfl, rfl, _, rfl, rfl, rfl, Or.inr ⟨rfl, fun q => h q.2⟩⟩ (Or.inl rfl))) (fun h => w_X9_is_20 (w_X9_is_25 ⟨rfl, rfl, _, rfl, rfl, rfl, Or.inl ⟨rfl, hf, h⟩⟩ (Or.inr rfl)))))
theorem yGoes (hR : wkR R) (hk : yOk I) : wkV l G (d + 2) n_X9_goesOn [.ref 292] I L R (fun I' L' => L' = L ∧ yN I I') := by
  refine wkC_of 0 (by decide) (Nat.le_of_ble_eq_true rfl) (w_X9_goesOn_0 (fun h => w_X9_goesOn_18 (w_X9_goesOn_28 ⟨rfl, rfl, rfl, rfl, ?_⟩)) (fun h => w_X9_goesOn_10 (yFail (d := d) hR hk (by decide) (by decide)) (fun I' L' hq => w_X9_goesOn_15 (w_X9_goesOn_28 ⟨rfl, rfl, rfl, hq.1, hq.2.1, fun q => absurd q hq.2.2.1⟩))))
  have h4 : (I 292 11).toInt ≠ 400 := fun q => h (i_eq.mpr q)
  have e : (I 292 11 + 1).toInt = (I 292 11).toInt + 1 := i_s (by have := hk.1.2; omega)
  have e2 : (qUp I 292 11 (I 292 11 + 1)) 292 11 = I 292 11 + 1 := by rw [qUp_at, if_pos ⟨rfl, rfl⟩]
  have e3 : (qUp I 292 11 (I 292 11 + 1)) 292 13 = I 292 13 := qUp_ne (by omega)
  refine ⟨⟨yT_up (by omega), ⟨?_, ?_⟩, ?_, ?_⟩, fun _ => ?_⟩
  · rw [e2, e]; have := hk.1; omega
  · rw [e3]; exact hk.2
  · rw [e2, e]; omega
  · rw [e3]; exact id
  · rw [e2, e]
theorem yMust (hR : wkR R) (hk : yOk I) {k : Int32} : wkV l G (d + 3) n_X9_must [.ref 292, .int k] I L R (fun I' L' => L' = L ∧ yN I I' ∧ (I' 292 13 = 0 → I 295 (I 292 11).toNatClampNeg = k)) := by
  refine wkC_of 0 (by decide) (Nat.le_of_ble_eq_true rfl) (w_X9_must_0 (yIs (d := d + 1) hR hk) (fun y I' L' hq => ?_))
  obtain ⟨rfl, rfl, hy⟩ := hq
  rcases hy with ⟨rfl, h1, h2⟩ | ⟨rfl, h1⟩
  · exact w_X9_must_5 (fun q => absurd q (by decide)) (fun _ => w_X9_must_8 (yGoes (d := d) hR hk) (fun I1 L1 hq => w_X9_must_12 (w_X9_must_20 ⟨rfl, rfl, rfl, hq.1, hq.2, fun _ => h2⟩)))
  · exact w_X9_must_5 (fun _ => w_X9_must_15 (yFail (d := d + 1) hR hk (by decide) (by decide)) (fun I1 L1 hq => w_X9_must_20 ⟨rfl, rfl, rfl, hq.1, ⟨hq.2.1, fun q => absurd q hq.2.2.1⟩, fun q => absurd q hq.2.2.1⟩)) (fun q => absurd rfl q)
theorem yWrong (hR : wkR R) (hk : yOk I) {k t : Int32} (ht : vp_in t 403) : wkV l G (d + 1) n_X9_wrong [.ref 292, .int k, .int t] I L R (fun I' L' => L' = L ∧ yS I I' ∧ I' 292 11 = I 292 11 ∧ I' 292 13 = I 292 13) := by
  have same : wkPV R (fun I' L' => L' = L ∧ yS I I' ∧ I' 292 11 = I 292 11 ∧ I' 292 13 = I 292 13) none 336 I L R := ⟨rfl, rfl, rfl, rfl, yS_rf hk, rfl, rfl⟩
  have new : ∀ a b : Int32, wkPV R (fun I' L' => L' = L ∧ yS I I' ∧ I' 292 11 = I 292 11 ∧ I' 292 13 = I 292 13) none 336 (qUp (qUp I 292 15 a) 292 16 b) L R := by
    intro a b
    have e1 : (qUp (qUp I 292 15 a) 292 16 b) 292 11 = I 292 11 := by rw [qUp_ne (by omega), qUp_ne (by omega)]
    have e2 : (qUp (qUp I 292 15 a) 292 16 b) 292 13 = I 292 13 := by rw [qUp_ne (by omega), qUp_ne (by omega)]
    refine ⟨rfl, rfl, rfl, rfl, ⟨yT_tr (yT_up (j := 15) (by omega)) (yT_up (j := 16) (by omega)), ?_, ?_, ?_⟩, e1, e2⟩
    · unfold yOk; rw [e1, e2]; exact hk
    · rw [e1]; exact Int.le_refl _
    · rw [e2]; exact id
  exact wkC_of 1 (by decide) (Nat.le_of_ble_eq_true rfl) (w_X9_wrong_0 hR ht (fun _ => w_X9_wrong_45 same) (fun _ => w_X9_wrong_14 (fun _ => w_X9_wrong_46 (new _ _)) (fun _ => w_X9_wrong_21 (fun _ => w_X9_wrong_45 same) (fun _ => w_X9_wrong_29 (fun _ => w_X9_wrong_46 (new _ _)) (fun _ => w_X9_wrong_37 (fun _ => w_X9_wrong_46 (new _ _)) (fun _ => w_X9_wrong_45 same))))))
theorem yBounded (hR : wkR R) (hk : yOk I) {a b : Int32} : wkI l G (d + 3) n_X9_bounded [.ref 292, .int a, .int b] I L R (fun _ I' L' => L' = L ∧ yN I I') := by
  have bad : wkB l G (d + 2 + 1) n_X9_bounded (wkPI R (fun _ I' L' => L' = L ∧ yN I I')) 15 [.ref 292, .int a, .int b, wkU] [] I L R := w_X9_bounded_15 (yFail (d := d + 1) hR hk (by decide) (by decide)) (fun I1 L1 hq => w_X9_bounded_20 ⟨rfl, rfl, _, rfl, hq.1, hq.2.1, fun q => absurd q hq.2.2.1⟩)
  refine wkC_of 1 (by decide) (Nat.le_of_ble_eq_true rfl) (w_X9_bounded_0 (fun _ => bad) (fun _ => w_X9_bounded_7 (yIs (d := d + 1) hR hk) (fun y I' L' hq => ?_)))
  obtain ⟨rfl, rfl, hy⟩ := hq
  have go : ∀ (J : qMI) (v : Int32), yS I' J → J 292 11 = I' 292 11 → wkB l G (d + 2 + 1) n_X9_bounded (wkPI R (fun _ I1 L1 => L1 = L' ∧ yN I' I1)) 51 [.ref 292, .int a, .int b, .int v] [] J L' R := by
    intro J v hJ e
    refine w_X9_bounded_51 (yGoes (d := d) hR hJ.2.1) (fun I1 L1 hq => w_X9_bounded_55 ⟨rfl, rfl, _, rfl, hq.1, yS_tr hJ hq.2.1, fun q => ?_⟩)
    rw [hq.2.2 q, e]
  rcases hy with ⟨rfl, h1, h2⟩ | ⟨rfl, h1⟩
  · have w : wkB l G (d + 2 + 1) n_X9_bounded (wkPI R (fun _ I1 L1 => L1 = L' ∧ yN I' I1)) 42 [.ref 292, .int a, .int b, .int (I' 297 (I' 292 11).toNatClampNeg)] [] I' L' R := w_X9_bounded_42 (yWrong (d := d + 1) hR hk (yOk_t hk)) (fun I1 L1 hq => by obtain ⟨rfl, h3, h4, -⟩ := hq; exact go I1 _ h3 h4)
    exact w_X9_bounded_12 (fun _ => w_X9_bounded_22 hR (yOk_t hk) (fun _ => w) (fun _ => w_X9_bounded_37 (fun _ => go I' _ (yS_rf hk) rfl) (fun _ => w))) (fun q => absurd q (by decide))
  · exact w_X9_bounded_12 (fun q => absurd rfl q) (fun _ => bad)
theorem yRoomFor (hR : wkR R) (hk : yOk I) {a b : Int32} : wkV l G (d + 3) n_X9_roomFor [.ref 292, .int a, .int b] I L R (fun I' L' => L' = L ∧ yN I I' ∧ (I' 292 13 = 0 → a ≠ b)) := by
  have go : ∀ J : qMI, yS I J → (J 292 13 = 0 → J 292 11 = I 292 11 ∧ a ≠ b) → wkB l G (d + 2 + 1) n_X9_roomFor (wkPV R (fun I' L' => L' = L ∧ yN I I' ∧ (I' 292 13 = 0 → a ≠ b))) 10 [.ref 292, .int a, .int b] [] J L R := by
    intro J hJ hn
    refine w_X9_roomFor_10 (fun h => w_X9_roomFor_21 ⟨rfl, rfl, rfl, rfl, ⟨hJ, fun q => absurd q h⟩, fun q => absurd q h⟩) (fun h => w_X9_roomFor_17 (yGoes (d := d + 0) hR hJ.2.1) (fun I1 L1 hq => w_X9_roomFor_21 ⟨rfl, rfl, rfl, hq.1, ⟨yS_tr hJ hq.2.1, fun q => ?_⟩, fun _ => (hn h).2⟩))
    rw [hq.2.2 q, (hn h).1]
  exact wkC_of 0 (by decide) (Nat.le_of_ble_eq_true rfl) (w_X9_roomFor_0 (fun h => go I (yS_rf hk) (fun _ => ⟨rfl, h⟩)) (fun h => w_X9_roomFor_5 (yFail (d := d + 1) hR hk (by decide) (by decide)) (fun I1 L1 hq => by obtain ⟨rfl, h3, h4, -⟩ := hq; exact go I1 h3 (fun q => absurd q h4))))
end
