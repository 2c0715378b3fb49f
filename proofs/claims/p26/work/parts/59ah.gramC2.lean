def cNm (w : Nat → Int64) : List Int64 → Prop
  | [] => True
  | x :: r => w r.length = x ∧ cNm w r
def cRf (R : qMR) (o : Nat) : Prop := (R 3 0 = some 4 ∧ R 3 1 = some o) ∧ (R 4 0 = some 5 ∧ R 4 1 = some 6 ∧ R 4 2 = some 7 ∧ R 4 3 = some 8) ∧ (R o 0 = some (o + 1) ∧ R o 3 = some (o + 2) ∧ R o 4 = some (o + 3) ∧ R o 6 = some (o + 4) ∧ R o 7 = some (o + 5) ∧ R o 12 = some (o + 6)) ∧ (R (o + 6) 0 = some (o + 7) ∧ R (o + 6) 1 = some (o + 8) ∧ R (o + 6) 3 = some (o + 9))
def cBd (o : Nat) (I : qMI) : Prop := (0 ≤ (I o 1).toInt ∧ (I o 1).toInt ≤ 12) ∧ (0 ≤ (I o 2).toInt ∧ (I o 2).toInt ≤ 6) ∧ (0 ≤ (I o 5).toInt ∧ (I o 5).toInt ≤ 6) ∧ (0 ≤ (I (o + 6) 2).toInt ∧ (I (o + 6) 2).toInt ≤ 420)
/-- what counts while there is no fault -/
def cLv (o : Nat) (I : qMI) (L : qML) (z : pZ) : Prop := ((I 3 2).toInt = pt z ∧ I 3 3 = I 6 (pt z)) ∧ (I 3 6 = z.2.1.1 ∧ (z.2.1.1 ≠ 0 → I 3 7 = z.2.1.2) ∧ I 3 5 = -1) ∧ cNm (L (o + 1)) z.2.2.1 ∧ (I o 1).toInt = z.2.2.1.length ∧ (I o 2).toInt = z.2.2.2.1 ∧ (I o 5).toInt = z.2.2.2.2
def cG (o : Nat) (I : qMI) (L : qML) (z : pZ) : Prop := (0 ≤ (I 3 2).toInt ∧ (I 3 2).toInt ≤ 400) ∧ I 3 4 = pf z ∧ (pf z ≠ 0 → I 3 5 = pq z) ∧ (pf z = 0 → cLv o I L z) ∧ cBd o I
def cF (o : Nat) (I0 : qMI) (L0 : qML) (I : qMI) (L : qML) : Prop := (∀ k, k ≠ 3 → (k < o ∨ o + 9 < k) → I k = I0 k) ∧ (∀ j, (j < 2 ∨ 7 < j) → I 3 j = I0 3 j) ∧ (∀ k, k ≠ o + 1 → L k = L0 k) ∧ ∀ j, 3 < o → (13 ≤ j → I o j = I0 o j) ∧ (6 ≤ j → I (o + 6) j = I0 (o + 6) j)
theorem cF_rf (o : Nat) (I : qMI) (L : qML) : cF o I L I L := ⟨fun _ _ _ => rfl, fun _ _ => rfl, fun _ _ => rfl, fun _ _ => ⟨fun _ => rfl, fun _ => rfl⟩⟩
theorem cF_tr {o : Nat} {I J K : qMI} {L M N : qML} (h : cF o I L J M) (g : cF o J M K N) : cF o I L K N := ⟨fun k a b => (g.1 k a b).trans (h.1 k a b), fun j a => (g.2.1 j a).trans (h.2.1 j a), fun k a => (g.2.2.1 k a).trans (h.2.2.1 k a), fun j q => ⟨fun a => ((g.2.2.2 j q).1 a).trans ((h.2.2.2 j q).1 a), fun a => ((g.2.2.2 j q).2 a).trans ((h.2.2.2 j q).2 a)⟩⟩
theorem up3 {I : qMI} {j : Nat} {x : Int32} {k : Nat} (h : k ≠ 3) : (qUp I 3 j x) k = I k := funext fun i => qUp_ne (fun q => h q.1)
theorem cF_3 {o : Nat} {I I0 : qMI} {L L0 : qML} {j : Nat} {x : Int32} (hj : 2 ≤ j ∧ j ≤ 7) (h : cF o I0 L0 I L) : cF o I0 L0 (qUp I 3 j x) L := ⟨fun k a b => (up3 a).trans (h.1 k a b), fun i a => (qUp_ne (fun q => by omega)).trans (h.2.1 i a), h.2.2.1, fun i q => by rw [up3 (show o ≠ 3 by omega), up3 (show o + 6 ≠ 3 by omega)]; exact h.2.2.2 i q⟩
theorem cBd_3 {o : Nat} (ho : o = 9 ∨ o = 259) {I : qMI} {j : Nat} {x : Int32} (h : cBd o I) : cBd o (qUp I 3 j x) := by
  unfold cBd
  rw [up3 (by omega), up3 (by omega)]
  exact h
section
variable {l : Launch} {G : qG} {d : Nat} {I : qMI} {L : qML} {R : qMR} {o : Nat} {z : pZ}
theorem cFail (ho : o = 9 ∨ o = 259) (hR : cRf R o) (h : cG o I L z) {w : Int32} (hw : w ≠ 0) : wkCv l G (d + 1) n_X1_fail [.ref 3, .int w] I L R (fun I' L' R' => R = R' ∧ cF o I L I' L' ∧ cG o I' L' (zFail (I 7) w z)) := by
  obtain ⟨h1, h2, h3, h4, h5⟩ := h
  refine wkC_of 0 (by decide) (Nat.le_of_ble_eq_true rfl) (w_X1_fail_0 (fun q => w_X1_fail_28 ⟨rfl, rfl, rfl, cF_rf o I L, ?_⟩) (fun q => w_X1_fail_7 hR.1.1 hR.2.1.2.2.1 ?_ (w_X1_fail_28 ⟨rfl, rfl, rfl, cF_3 (by omega) (cF_3 (by omega) (cF_rf o I L)), ?_⟩)))
  · unfold zFail
    rw [if_neg (fun e => q (by rw [h2]; exact e))]
    exact ⟨h1, h2, h3, h4, h5⟩
  · rw [qUp_ne (by omega)]
    exact vin h1.1 (by omega)
  · have hf : pf z = 0 := by rw [← h2]; exact q
    obtain ⟨⟨a1, a2⟩, -⟩ := h4 hf
    unfold zFail
    rw [if_pos hf]
    refine ⟨?_, ?_, fun _ => ?_, fun e => absurd e hw, cBd_3 ho (cBd_3 ho h5)⟩
    · rw [qUp_ne (by omega), qUp_ne (by omega)]; exact h1
    · rw [qUp_ne (by omega), qUp_at, if_pos ⟨rfl, rfl⟩]
    · rw [qUp_at, if_pos ⟨rfl, rfl⟩, qUp_ne (by omega), qUp_ne (by omega), tcn, a1, Int.toNat_natCast]
theorem cTake (ho : o = 9 ∨ o = 259) (hR : cRf R o) (h : cG o I L z) {b : Int32} (hb : b = 0 ∨ b = 1) : wkCv l G (d + 1) n_X1_take [.ref 3, .int b] I L R (fun I' L' R' => R = R' ∧ cF o I L I' L' ∧ cG o I' L' (zTake (I 7) (decide (b = 1)) z)) := by
  obtain ⟨h1, h2, h3, h4, h5⟩ := h
  refine wkC_of 0 (by decide) (Nat.le_of_ble_eq_true rfl) (w_X1_take_0 (fun q => ?_) (fun q => w_X1_take_7 ⟨rfl, rfl, rfl, cF_rf o I L, ?_⟩))
  · have hf : pf z = 0 := by rw [← h2]; exact q
    obtain ⟨⟨a1, a2⟩, a3, a4⟩ := h4 hf
    have bad : ∀ w : Int32, w ≠ 0 → zTake (I 7) (decide (b = 1)) z = ((pt z, w, I 7 (pt z)), z.2) → wkB l G (d + 1) n_X1_take (fun r t I' L' R' => t = 336 ∧ r = none ∧ R = R' ∧ cF o I L I' L' ∧ cG o I' L' (zTake (I 7) (decide (b = 1)) z)) 32 [.ref 3, .int b] [.int w, .ref 3] I L R := by
      intro w hw e
      rw [e]
      refine w_X1_take_32 hR.1.1 hR.2.1.2.2.1 ?_ (w_X1_take_80 ⟨rfl, rfl, rfl, cF_3 (by omega) (cF_3 (by omega) (cF_rf o I L)), ?_, ?_, fun _ => ?_, fun e => absurd e hw, cBd_3 ho (cBd_3 ho h5)⟩)
      · rw [qUp_ne (by omega)]
        exact vin h1.1 (by omega)
      · rw [qUp_ne (by omega), qUp_ne (by omega)]; exact h1
      · rw [qUp_ne (by omega), qUp_at, if_pos ⟨rfl, rfl⟩]
      · rw [qUp_at, if_pos ⟨rfl, rfl⟩, qUp_ne (by omega), qUp_ne (by omega), tcn, a1, Int.toNat_natCast]
    refine w_X1_take_8 (fun hb0 => ?_) (fun hb0 => ?_)
    · refine w_X1_take_22 (fun _ => w_X1_take_31 (bad 1 (by decide) ?_)) (fun q => absurd hb0 q)
      unfold zTake
      rw [if_pos hf, if_neg (by rw [hb0]; decide)]
    · have hb1 : b = 1 := hb.resolve_left hb0
      refine w_X1_take_12 (fun q4 => ?_) (fun q4 => ?_)
      · have q4 := i_lt.mp q4
        rw [show (400 : Int32).toInt = 400 from rfl] at q4
        have e1 : (I 3 2 + 1).toInt = (I 3 2).toInt + 1 := i_s (by omega)
        have e2 : (qUp I 3 2 (I 3 2 + 1)) 3 2 = I 3 2 + 1 := by rw [qUp_at, if_pos ⟨rfl, rfl⟩]
        have ez : zTake (I 7) (decide (b = 1)) z = ((pt z + 1, 0, pq z), z.2) := by
          unfold zTake
          rw [if_pos hf, if_pos (by rw [hb1]; decide), if_neg (by omega)]
        refine w_X1_take_54 hR.1.1 hR.2.1.2.1 (by rw [e2]; exact vin (by omega) (by omega)) (w_X1_take_80 ⟨rfl, rfl, rfl, cF_3 (by omega) (cF_3 (by omega) (cF_rf o I L)), ?_⟩)
        rw [ez, e2]
        refine ⟨?_, ?_, fun e => absurd rfl e, fun _ => ⟨⟨?_, ?_⟩, ⟨?_, fun e => ?_, ?_⟩, a4.1, ?_, ?_, ?_⟩, cBd_3 ho (cBd_3 ho h5)⟩
        · rw [qUp_ne (by omega), e2]; omega
        · rw [qUp_ne (by omega), qUp_ne (by omega)]; exact q
        · rw [qUp_ne (by omega), e2, e1, a1]; rfl
        · rw [qUp_at, if_pos ⟨rfl, rfl⟩, up3 (by omega), up3 (by omega), up3 (by omega), tcn, e1, a1]
          rfl
        · rw [qUp_ne (by omega), qUp_ne (by omega)]; exact a3.1
        · rw [qUp_ne (by omega), qUp_ne (by omega)]; exact a3.2.1 e
        · rw [qUp_ne (by omega), qUp_ne (by omega)]; exact a3.2.2
        · rw [up3 (by omega), up3 (by omega)]; exact a4.2.1
        · rw [up3 (by omega), up3 (by omega)]; exact a4.2.2.1
        · rw [up3 (by omega), up3 (by omega)]; exact a4.2.2.2
      · have q4 : ¬ _ := fun z => q4 (i_lt.mpr z)
        rw [show (400 : Int32).toInt = 400 from rfl] at q4
        refine w_X1_take_22 (fun q => absurd q hb0) (fun _ => w_X1_take_27 (bad 2 (by decide) ?_))
        unfold zTake
        rw [if_pos hf, if_pos (by rw [hb1]; decide), if_pos (by omega)]
  · unfold zTake
    rw [if_neg (fun e => q (by rw [h2]; exact e))]
    exact ⟨h1, h2, h3, h4, h5⟩
theorem cNote (ho : o = 9 ∨ o = 259) (h : cG o I L z) (hf : pf z = 0) {w p : Int32} (hw : w ≠ 0) : wkCv l G (d + 1) n_X1_note [.ref 3, .int w, .int p] I L R (fun I' L' R' => R = R' ∧ cF o I L I' L' ∧ cG o I' L' (zNote w p z)) := by
  obtain ⟨h1, h2, h3, h4, h5⟩ := h
  obtain ⟨⟨a1, a2⟩, a3, a4⟩ := h4 hf
  refine wkC_of 0 (by decide) (Nat.le_of_ble_eq_true rfl) (w_X1_note_0 (fun q => w_X1_note_17 ⟨rfl, rfl, rfl, cF_rf o I L, ?_⟩) (fun q => w_X1_note_7 (w_X1_note_17 ⟨rfl, rfl, rfl, cF_3 (by omega) (cF_3 (by omega) (cF_rf o I L)), ?_⟩)))
  · unfold zNote
    rw [if_neg (fun e => q (by rw [a3.1]; exact e))]
    exact ⟨h1, h2, h3, h4, h5⟩
  · unfold zNote
    rw [if_pos (by rw [← a3.1]; exact q)]
    refine ⟨?_, ?_, fun e => absurd hf e, fun _ => ⟨⟨?_, ?_⟩, ⟨?_, fun _ => ?_, ?_⟩, a4.1, ?_, ?_, ?_⟩, cBd_3 ho (cBd_3 ho h5)⟩
    · rw [qUp_ne (by omega), qUp_ne (by omega)]; exact h1
    · rw [qUp_ne (by omega), qUp_ne (by omega)]; exact h2
    · rw [qUp_ne (by omega), qUp_ne (by omega)]; exact a1
    · rw [qUp_ne (by omega), qUp_ne (by omega), up3 (by omega), up3 (by omega)]; exact a2
    · rw [qUp_ne (by omega), qUp_at, if_pos ⟨rfl, rfl⟩]
    · rw [qUp_at, if_pos ⟨rfl, rfl⟩]
    · rw [qUp_ne (by omega), qUp_ne (by omega)]; exact a3.2.2
    · rw [up3 (by omega), up3 (by omega)]; exact a4.2.1
    · rw [up3 (by omega), up3 (by omega)]; exact a4.2.2.1
    · rw [up3 (by omega), up3 (by omega)]; exact a4.2.2.2
end
