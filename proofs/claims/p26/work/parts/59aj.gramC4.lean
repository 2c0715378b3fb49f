theorem zTake_2 {S : Nat → Int32} {b : Bool} {z : pZ} : (zTake S b z).2 = z.2 := by
  unfold zTake
  split
  · split
    · split <;> rfl
    · rfl
  · rfl
theorem zNote_1 {w p : Int32} {z : pZ} : (zNote w p z).1 = z.1 ∧ (zNote w p z).2.2 = z.2.2 := by
  unfold zNote
  split <;> exact ⟨rfl, rfl⟩
section
variable {l : Launch} {G : qG} {d : Nat} {I : qMI} {L : qML} {R : qMR} {o : Nat} {z : pZ} {K S : Nat → Int32} {N : Nat → Int64}
theorem zInt_3 {lo hi : Int32} : (zInt K S N lo hi z).2.2 = z.2.2 := by
  unfold zInt
  split
  · rw [zNote_1.2, zTake_2]
  · rw [zTake_2]
theorem zInt_f {lo hi : Int32} (h : pf z ≠ 0) : zInt K S N lo hi z = z := by
  unfold zInt
  rw [zTake_f h, if_neg (fun e => h e.1)]
theorem zInt_0 {lo hi : Int32} (h : pf (zInt K S N lo hi z) = 0) : pf z = 0 := Decidable.byContradiction fun q => by rw [zInt_f q] at h; exact q h
theorem zName_f (h : pf z ≠ 0) : zName K S N z = z := by
  unfold zName
  rw [zTake_f h, if_neg h]
theorem zName_c : (zName K S N z).2.2.2 = z.2.2.2 ∧ (zName K S N z).2.2.1.length ≤ z.2.2.1.length + 1 := by
  unfold zName
  split
  · split
    · rw [zNote_1.2, zTake_2]; exact ⟨rfl, by omega⟩
    · exact ⟨rfl, by simp⟩
  · rw [zTake_2]; exact ⟨rfl, by omega⟩
theorem cAddSt (ho : o = 9 ∨ o = 259) (hR : cRf R o) (h : cH o K S N I L z) (hf : pf z = 0) {b x v : Int32} (hb : (b = 1 ∧ z.2.2.2.1 < 6) ∨ (b = 0 ∧ z.2.2.2.2 < 6)) : wkCv l G (d + 1) n_X0_addStander [.ref o, .int b, .int x, .int v] I L R (cPo o K S N I L R (if decide (b = 1) = true then (z.1, z.2.1, z.2.2.1, z.2.2.2.1 + 1, z.2.2.2.2) else (z.1, z.2.1, z.2.2.1, z.2.2.2.1, z.2.2.2.2 + 1))) := by
  obtain ⟨hE, h1, h2, h3, h4, h5⟩ := id h
  obtain ⟨⟨a1, a2⟩, a3, n1, n2, n3, n4⟩ := h4 hf
  have go : ∀ (i i1 i2 : Nat) (s : Int32), (i = 2 ∨ i = 5) → (i1 = o + 2 ∨ i1 = o + 4) → (i2 = o + 3 ∨ i2 = o + 5) → (I o i).toInt < 6 → 0 ≤ (I o i).toInt → ∀ (y1 y2 : Nat), cPo o K S N I L R (if i = 2 then (z.1, z.2.1, z.2.2.1, z.2.2.2.1 + 1, z.2.2.2.2) else (z.1, z.2.1, z.2.2.1, z.2.2.2.1, z.2.2.2.2 + 1)) (qUp (qUp (qUp I i1 y1 x) i2 y2 v) o i (I o i + 1)) L R := by
    intro i i1 i2 s hi h1' h2' hlt h0 y1 y2
    have eo : ∀ k, k ≠ o → k ≠ i1 → k ≠ i2 → (qUp (qUp (qUp I i1 y1 x) i2 y2 v) o i (I o i + 1)) k = I k := fun k q1 q2 q3 => funext fun j => by rw [qUp_ne (fun w => q1 w.1), qUp_ne (fun w => q3 w.1), qUp_ne (fun w => q2 w.1)]
    have eo2 : ∀ j, j ≠ i → (qUp (qUp (qUp I i1 y1 x) i2 y2 v) o i (I o i + 1)) o j = I o j := fun j q => by rw [qUp_ne (fun w => q w.2), qUp_ne (fun w => by omega), qUp_ne (fun w => by omega)]
    have eo1 : (qUp (qUp (qUp I i1 y1 x) i2 y2 v) o i (I o i + 1)) o i = I o i + 1 := by rw [qUp_at, if_pos ⟨rfl, rfl⟩]
    have e1 : (I o i + 1).toInt = (I o i).toInt + 1 := i_s (by omega)
    have ez : (if i = 2 then (z.1, z.2.1, z.2.2.1, z.2.2.2.1 + 1, z.2.2.2.2) else (z.1, z.2.1, z.2.2.1, z.2.2.2.1, z.2.2.2.2 + 1) : pZ) = (z.1, z.2.1, z.2.2.1, (if i = 2 then z.2.2.2.1 + 1 else z.2.2.2.1), (if i = 2 then z.2.2.2.2 else z.2.2.2.2 + 1)) := by split <;> rfl
    rw [ez]
    refine ⟨rfl, ⟨fun k q1 q2 => eo k (by omega) (by omega) (by omega), fun j q => by rw [eo 3 (by omega) (by omega) (by omega)], fun _ _ => rfl, fun j _ => ⟨fun q => eo2 j (by omega), fun _ => by rw [eo (o + 6) (by omega) (by omega) (by omega)]⟩⟩, ⟨by rw [eo 6 (by omega) (by omega) (by omega)]; exact hE.1, by rw [eo 7 (by omega) (by omega) (by omega)]; exact hE.2.1, hE.2.2⟩, ?_, ?_, ?_, fun _ => ⟨?_, ?_, n1, ?_, ?_, ?_⟩, ?_⟩
    · rw [eo 3 (by omega) (by omega) (by omega)]; exact h1
    · rw [eo 3 (by omega) (by omega) (by omega)]; exact h2
    · rw [eo 3 (by omega) (by omega) (by omega)]; exact h3
    · rw [eo 3 (by omega) (by omega) (by omega), eo 6 (by omega) (by omega) (by omega)]; exact ⟨a1, a2⟩
    · rw [eo 3 (by omega) (by omega) (by omega)]; exact a3
    · rw [eo2 1 (by omega)]; exact n2
    · rcases hi with rfl | rfl
      · rw [eo1, e1, n3, if_pos rfl]; rfl
      · rw [eo2 2 (by omega), if_neg (by decide)]; exact n3
    · rcases hi with rfl | rfl
      · rw [eo2 5 (by omega), if_pos rfl]; exact n4
      · rw [eo1, e1, n4, if_neg (by decide)]; rfl
    · unfold cBd at h5 ⊢
      rw [eo2 1 (by omega), eo (o + 6) (by omega) (by omega) (by omega)]
      rcases hi with rfl | rfl
      · rw [eo1, e1, eo2 5 (by omega)]
        exact ⟨h5.1, by omega, h5.2.2⟩
      · rw [eo1, e1, eo2 2 (by omega)]
        exact ⟨h5.1, h5.2.1, by omega, h5.2.2.2⟩
  rcases hb with ⟨rfl, hb⟩ | ⟨rfl, hb⟩
  · refine wkC_of 0 (by decide) (Nat.le_of_ble_eq_true rfl) (w_X0_addStander_0 ho (fun q => absurd q (by decide)) (fun _ => w_X0_addStander_4 ho (fun q => absurd (i_le.mp q) (by rw [show (6 : Int32).toInt = 6 from rfl]; omega)) (fun _ => w_X0_addStander_13 ho hR.2.2.1.2.1 (vin (by omega) (by omega)) hR.2.2.1.2.2.1 ?_ (w_X0_addStander_89 ho ⟨rfl, rfl, ?_⟩))))
    · rw [qUp_ne (by omega)]
      exact vin (by omega) (by omega)
    · have e3 : ∀ y1 y2, (qUp (qUp I (o + 2) y1 x) (o + 3) y2 v) o 2 = I o 2 := fun y1 y2 => by rw [qUp_ne (by omega), qUp_ne (by omega)]
      rw [e3, if_pos (by decide)]
      have := go 2 (o + 2) (o + 3) x (Or.inl rfl) (Or.inl rfl) (Or.inl rfl) (by omega) (by omega) (I o 2).toNatClampNeg ((qUp I (o + 2) (I o 2).toNatClampNeg x) o 2).toNatClampNeg
      rw [if_pos rfl] at this
      exact this
  · refine wkC_of 0 (by decide) (Nat.le_of_ble_eq_true rfl) (w_X0_addStander_0 ho (fun _ => w_X0_addStander_46 ho (fun q => absurd rfl q) (fun _ => w_X0_addStander_50 ho (fun q => absurd (i_le.mp q) (by rw [show (6 : Int32).toInt = 6 from rfl]; omega)) (fun _ => w_X0_addStander_59 ho hR.2.2.1.2.2.2.1 (vin (by omega) (by omega)) hR.2.2.1.2.2.2.2.1 ?_ (w_X0_addStander_89 ho ⟨rfl, rfl, ?_⟩)))) (fun q => absurd rfl q))
    · rw [qUp_ne (by omega)]
      exact vin (by omega) (by omega)
    · have e3 : ∀ y1 y2, (qUp (qUp I (o + 4) y1 x) (o + 5) y2 v) o 5 = I o 5 := fun y1 y2 => by rw [qUp_ne (by omega), qUp_ne (by omega)]
      rw [e3, if_neg (by decide)]
      have := go 5 (o + 4) (o + 5) x (Or.inr rfl) (Or.inr rfl) (Or.inr rfl) (by omega) (by omega) (I o 5).toNatClampNeg ((qUp I (o + 4) (I o 5).toNatClampNeg x) o 5).toNatClampNeg
      rw [if_neg (by decide)] at this
      exact this
theorem cStand (ho : o = 9 ∨ o = 259) (hR : cRf R o) (h : cH o K S N I L z) {b : Int32} (hb : b = 0 ∨ b = 1) (hc : pf z = 0 → z.2.2.1.length ≤ 11 ∧ (b = 1 → z.2.2.2.1 < 6) ∧ (b = 0 → z.2.2.2.2 < 6)) : wkCv l G (d + 3) n_X1_takeStander [.ref 3, .int b] I L R (cPo o K S N I L R (zStand K S N (decide (b = 1)) z)) := by
  obtain ⟨v1, hf4, hz⟩ := cAt h
  obtain ⟨⟨e6, e7, e8⟩, -⟩ := id h
  have fin : ∀ (I1 : qMI) (L1 : qML) (z1 : pZ) (a2 : Int32) (a3 : Int64), cF o I L I1 L1 → cH o K S N I1 L1 z1 → z1 = zName K S N z → wkB l G (d + 2 + 1) n_X1_takeStander (fun r t I' L' R' => t = 336 ∧ r = none ∧ cPo o K S N I L R (zStand K S N (decide (b = 1)) z) I' L' R') 67 [.ref 3, .int b, .int a2, .long a3, wkU, wkU, wkU] [] I1 L1 R := by
    intro I1 L1 z1 a2 a3 f1 g1 e1
    subst e1
    have end_ : ∀ (I3 : qMI) (L3 : qML) (z3 : pZ) (a5 s0 : Int32), cF o I L I3 L3 → cH o K S N I3 L3 z3 → z3 = (if decide (b = 1) = true then zInt K S N 1 9 (zInt K S N 0 19 (zName K S N z)) else zInt K S N 0 999 (zInt K S N 0 19 (zName K S N z))) → wkB l G (d + 2 + 1) n_X1_takeStander (fun r t I' L' R' => t = 336 ∧ r = none ∧ cPo o K S N I L R (zStand K S N (decide (b = 1)) z) I' L' R') 98 [.ref 3, .int b, .int a2, .long a3, wkU, .int a5, wkU] [.int s0] I3 L3 R := by
      intro I3 L3 z3 a5 s0 f3 g3 e3
      have ez : zStand K S N (decide (b = 1)) z = (if pf z3 = 0 then (if decide (b = 1) = true then (z3.1, z3.2.1, z3.2.2.1, z3.2.2.2.1 + 1, z3.2.2.2.2) else (z3.1, z3.2.1, z3.2.2.1, z3.2.2.2.1, z3.2.2.2.2 + 1)) else z3) := by
        rw [e3]; rfl
      obtain ⟨-, h34, -⟩ := cAt g3
      have z3c : z3.2.2.2 = z.2.2.2 := by
        rw [e3]
        split
        · rw [zInt_3, zInt_3]; exact zName_c.1
        · rw [zInt_3, zInt_3]; exact zName_c.1
      have z30 : pf z3 = 0 → pf z = 0 := fun q => by
        refine Decidable.byContradiction fun n => ?_
        rw [e3, zName_f n] at q
        split at q
        · exact n (zInt_0 (zInt_0 q))
        · exact n (zInt_0 (zInt_0 q))
      refine w_X1_takeStander_98 (fun q => w_X1_takeStander_119 ⟨rfl, rfl, rfl, f3, ?_⟩) (fun q => ?_)
      · rw [ez, if_neg (fun e => q (by rw [h34]; exact e))]
        exact g3
      · have hf3 : pf z3 = 0 := by rw [← h34]; exact q
        obtain ⟨c1, c2, c3⟩ := hc (z30 hf3)
        refine w_X1_takeStander_107 ho hR.1.2 (cAddSt (d := d + 1) ho hR g3 hf3 ?_) (fun I4 L4 R4 hq => ?_)
        · rw [z3c]
          rcases hb with rfl | rfl
          · exact Or.inr ⟨rfl, c3 rfl⟩
          · exact Or.inl ⟨rfl, c2 rfl⟩
        · obtain ⟨rfl, f4, g4⟩ := hq
          refine w_X1_takeStander_119 ⟨rfl, rfl, rfl, cF_tr f3 f4, ?_⟩
          rw [ez, if_pos hf3]
          exact g4
    refine w_X1_takeStander_67 (cInt (d := d) ho hR g1) (fun y I2 L2 R2 hq => ?_)
    obtain ⟨rfl, f2, g2⟩ := hq
    refine w_X1_takeStander_74 (fun q => ?_) (fun q => ?_)
    · refine w_X1_takeStander_90 (cInt (d := d) ho hR g2) (fun y2 I3 L3 R3 hq => ?_)
      obtain ⟨rfl, f3, g3⟩ := hq
      exact end_ I3 L3 _ _ _ (cF_tr f1 (cF_tr f2 f3)) g3 (by rw [q, if_neg (by decide)])
    · have hb1 : b = 1 := hb.resolve_left q
      refine w_X1_takeStander_80 (cInt (d := d) ho hR g2) (fun y2 I3 L3 R3 hq => ?_)
      obtain ⟨rfl, f3, g3⟩ := hq
      exact w_X1_takeStander_87 (end_ I3 L3 _ _ _ (cF_tr f1 (cF_tr f2 f3)) g3 (by rw [hb1, if_pos (by decide)]))
  have tk : ∀ c : Int32, (c = 0 ∨ c = 1) → (pf z = 0 → decide (c = 1) = decide (K (pt z) = 2)) → wkB l G (d + 2 + 1) n_X1_takeStander (fun r t I' L' R' => t = 336 ∧ r = none ∧ cPo o K S N I L R (zStand K S N (decide (b = 1)) z) I' L' R') 40 [.ref 3, .int b, .int (I 7 (I 3 2).toNatClampNeg), .long (L 8 (I 3 2).toNatClampNeg), wkU, wkU, wkU] [.int c, .ref 3] I L R := by
    intro c hc0 hc1
    refine w_X1_takeStander_40 (cTakeH (d := d + 1) ho hR h hc0 hc1) (fun I1 L1 R1 hq => ?_)
    obtain ⟨rfl, f1, g1⟩ := hq
    obtain ⟨-, h14, -⟩ := cAt g1
    refine w_X1_takeStander_43 (fun q => fin I1 L1 _ _ _ f1 g1 ?_) (fun q => ?_)
    · unfold zName
      rw [if_neg (fun e => q (by rw [h14]; exact e))]
    · have hf1 : pf (zTake S (decide (K (pt z) = 2)) z) = 0 := by rw [← h14]; exact q
      have hf0 := zTake_0 hf1
      obtain ⟨c1, c2⟩ := hz hf0
      refine w_X1_takeStander_50 ho hR.1.2 (cAddName (d := d + 1) ho hR g1 hf1 (by rw [zTake_2]; exact (hc hf0).1)) (fun y I2 L2 R2 hq => ?_)
      rw [zTake_2, e8, c1] at hq
      rcases hq with ⟨m1, rfl, rfl, f2, g2⟩ | ⟨m1, rfl, rfl, f2, g2⟩
      · refine w_X1_takeStander_58 (fun q => absurd rfl q) (fun _ => w_X1_takeStander_61 (cNoteH (d := d + 1) ho g2 hf1 (by decide)) (fun I3 L3 R3 hq => ?_))
        obtain ⟨rfl, f3, g3⟩ := hq
        refine fin I3 L3 _ _ _ (cF_tr f1 (cF_tr f2 f3)) g3 ?_
        unfold zName
        rw [if_pos hf1, if_pos m1, c1, e7]
      · refine w_X1_takeStander_58 (fun _ => ?_) (fun q => absurd q (by decide))
        refine fin I2 L2 _ _ _ (cF_tr f1 f2) g2 ?_
        unfold zName
        rw [if_pos hf1, if_neg m1]
  refine wkC_of 5 (by decide) (Nat.le_of_ble_eq_true rfl) (w_X1_takeStander_0 hR.1.1 hR.2.1.2.2.1 v1 hR.1.1 hR.2.1.2.2.2 v1 (fun q => w_X1_takeStander_39 (tk 0 (Or.inl rfl) (fun hf => ?_))) (fun q => w_X1_takeStander_35 (tk 1 (Or.inr rfl) (fun hf => ?_))))
  · rw [← (hz hf).2, decide_eq_false q]
    rfl
  · rw [← (hz hf).2, decide_eq_true q]
    rfl
end
