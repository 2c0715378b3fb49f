/-- only rows of laws are others -/
def cLw (o : Nat) (I I' : qMI) : Prop := ((∀ k, (k < o + 6 ∨ o + 9 < k) → I' k = I k) ∧ ∀ j, 6 ≤ j → I' (o + 6) j = I (o + 6) j) ∧ (0 ≤ (I' (o + 6) 2).toInt ∧ (I' (o + 6) 2).toInt ≤ 420)
theorem cLw_tr {o : Nat} {I J K : qMI} (h : cLw o I J) (g : cLw o J K) : cLw o I K := ⟨⟨fun k a => (g.1.1 k a).trans (h.1.1 k a), fun j a => (g.1.2 j a).trans (h.1.2 j a)⟩, g.2⟩
section
variable {l : Launch} {G : qG} {d : Nat} {I : qMI} {L : qML} {R : qMR} {o : Nat}
abbrev cLp (o : Nat) (I : qMI) (L : qML) (R : qMR) : qMI → qML → qMR → Prop := fun I' L' R' => R = R' ∧ L = L' ∧ cLw o I I'
theorem cEmit0 (ho : o = 9 ∨ o = 259) (hR : cRf R o) (hb : 0 ≤ (I (o + 6) 2).toInt ∧ (I (o + 6) 2).toInt ≤ 420) {a b : Int32} : wkCi l G (d + 1) n_X2_emit [.ref (o + 6), .int a, .int b] I L R (fun _ I' L' R' => cLp o I L R I' L' R') := by
  refine wkC_of 0 (by decide) (Nat.le_of_ble_eq_true rfl) (w_X2_emit_0 ho (fun _ => w_X2_emit_40 ho ⟨rfl, _, rfl, rfl, rfl, ⟨fun _ _ => rfl, fun _ _ => rfl⟩, hb⟩) (fun q => ?_))
  have q : ¬ _ := fun w => q (i_le.mpr w)
  rw [show (420 : Int32).toInt = 420 from rfl] at q
  have v : vp_in (I (o + 6) 2) 420 := vin hb.1 (by omega)
  have e1 : ∀ y, (qUp I (o + 7) y a) (o + 6) 2 = I (o + 6) 2 := fun y => qUp_ne (by omega)
  have e2 : ∀ y y', (qUp (qUp I (o + 7) y a) (o + 8) y' b) (o + 6) 2 = I (o + 6) 2 := fun y y' => by rw [qUp_ne (by omega), e1]
  refine w_X2_emit_10 ho hR.2.2.2.1 v hR.2.2.2.2.1 (by rw [e1]; exact v) (w_X2_emit_40 ho ⟨rfl, _, rfl, rfl, rfl, ⟨fun k q => ?_, fun j q => by rw [qUp_ne (fun w => by omega), qUp_ne (fun w => by omega), qUp_ne (fun w => by omega)]⟩, ?_⟩)
  · exact funext fun j => by rw [qUp_ne (fun w => by omega), qUp_ne (fun w => by omega), qUp_ne (fun w => by omega)]
  · rw [qUp_at, if_pos ⟨rfl, rfl⟩, e2, i_s (by omega)]
    omega
theorem cOpen0 (ho : o = 9 ∨ o = 259) (hR : cRf R o) (hb : 0 ≤ (I (o + 6) 2).toInt ∧ (I (o + 6) 2).toInt ≤ 420) {a : Int32} : wkCv l G (d + 1) n_X2_open [.ref (o + 6), .int a] I L R (cLp o I L R) := by
  have same : wkB l G (d + 1) n_X2_open (fun r t I' L' R' => t = 336 ∧ r = none ∧ cLp o I L R I' L' R') 19 [.ref (o + 6), .int a] [] I L R := w_X2_open_19 ho ⟨rfl, rfl, rfl, rfl, ⟨fun _ _ => rfl, fun _ _ => rfl⟩, hb⟩
  refine wkC_of 0 (by decide) (Nat.le_of_ble_eq_true rfl) (w_X2_open_0 ho (fun _ => same) (fun q1 => w_X2_open_4 ho (fun _ => same) (fun q2 => ?_)))
  have q1 : ¬ _ := fun w => q1 (i_lt.mpr w)
  have q2 : ¬ _ := fun w => q2 (i_le.mpr w)
  rw [show (0 : Int32).toInt = 0 from rfl] at q1
  rw [show (5 : Int32).toInt = 5 from rfl] at q2
  refine w_X2_open_9 ho hR.2.2.2.2.2 (vin (by omega) (by omega)) (w_X2_open_19 ho ⟨rfl, rfl, rfl, rfl, ⟨fun k q => ?_, fun j q => qUp_ne (fun w => by omega)⟩, ?_⟩)
  · exact funext fun j => qUp_ne (fun w => by omega)
  · rw [qUp_ne (fun w => by omega)]; exact hb
theorem cOWV (ho : o = 9 ∨ o = 259) (hR : cRf R o) (hb : 0 ≤ (I (o + 6) 2).toInt ∧ (I (o + 6) 2).toInt ≤ 420) {a b : Int32} : wkCv l G (d + 2) n_X2_openWithVar [.ref (o + 6), .int a, .int b] I L R (cLp o I L R) := by
  refine wkC_of 0 (by decide) (Nat.le_of_ble_eq_true rfl) (w_X2_openWithVar_0 ho (cOpen0 (d := d) ho hR hb) (fun I1 L1 R1 hq => ?_))
  obtain ⟨rfl, rfl, h1⟩ := hq
  refine w_X2_openWithVar_5 ho (cEmit0 (d := d) ho hR h1.2) (fun y I2 L2 R2 hq => ?_)
  obtain ⟨rfl, rfl, h2⟩ := hq
  refine w_X2_openWithVar_11 ho (cEmit0 (d := d) ho hR h2.2) (fun y I3 L3 R3 hq => ?_)
  obtain ⟨rfl, rfl, h3⟩ := hq
  exact w_X2_openWithVar_19 ho ⟨rfl, rfl, rfl, rfl, cLw_tr h1 (cLw_tr h2 h3)⟩
theorem cLclear (ho : o = 9 ∨ o = 259) (hR : cRf R o) : wkCv l G (d + 3) n_X2_clear [.ref (o + 6)] I L R (cLp o I L R) := by
  have h0 : cLw o I (qUp I (o + 6) 2 0) := ⟨⟨fun k q => funext fun j => qUp_ne (fun w => by omega), fun j q => qUp_ne (fun w => by omega)⟩, by rw [qUp_at, if_pos ⟨rfl, rfl⟩]; decide⟩
  refine wkC_of 0 (by decide) (Nat.le_of_ble_eq_true rfl) (w_X2_clear_0 ho (cOWV (d := d) ho hR h0.2) (fun I1 L1 R1 hq => ?_))
  obtain ⟨rfl, rfl, h1⟩ := hq
  refine w_X2_clear_11 ho (cOpen0 (d := d + 1) ho hR h1.2) (fun I2 L1 R1 hq => ?_)
  obtain ⟨rfl, rfl, h2⟩ := hq
  refine w_X2_clear_16 ho (cEmit0 (d := d + 1) ho hR h2.2) (fun y I3 L1 R1 hq => ?_)
  obtain ⟨rfl, rfl, h3⟩ := hq
  refine w_X2_clear_22 ho (cEmit0 (d := d + 1) ho hR h3.2) (fun y I4 L1 R1 hq => ?_)
  obtain ⟨rfl, rfl, h4⟩ := hq
  refine w_X2_clear_29 ho (cEmit0 (d := d + 1) ho hR h4.2) (fun y I5 L1 R1 hq => ?_)
  obtain ⟨rfl, rfl, h5⟩ := hq
  refine w_X2_clear_36 ho (cEmit0 (d := d + 1) ho hR h5.2) (fun y I6 L1 R1 hq => ?_)
  obtain ⟨rfl, rfl, h6⟩ := hq
  refine w_X2_clear_44 ho (cOpen0 (d := d + 1) ho hR h6.2) (fun I7 L1 R1 hq => ?_)
  obtain ⟨rfl, rfl, h7⟩ := hq
  refine w_X2_clear_50 ho (cEmit0 (d := d + 1) ho hR h7.2) (fun y I8 L1 R1 hq => ?_)
  obtain ⟨rfl, rfl, h8⟩ := hq
  refine w_X2_clear_56 ho (cEmit0 (d := d + 1) ho hR h8.2) (fun y I9 L1 R1 hq => ?_)
  obtain ⟨rfl, rfl, h9⟩ := hq
  refine w_X2_clear_64 ho (cOWV (d := d) ho hR h9.2) (fun IA L1 R1 hq => ?_)
  obtain ⟨rfl, rfl, hA⟩ := hq
  refine w_X2_clear_71 ho (cOpen0 (d := d + 1) ho hR hA.2) (fun IB L1 R1 hq => ?_)
  obtain ⟨rfl, rfl, hB⟩ := hq
  refine w_X2_clear_76 ho (cEmit0 (d := d + 1) ho hR hB.2) (fun y IC L1 R1 hq => ?_)
  obtain ⟨rfl, rfl, hC⟩ := hq
  refine w_X2_clear_82 ho (cEmit0 (d := d + 1) ho hR hC.2) (fun y ID L1 R1 hq => ?_)
  obtain ⟨rfl, rfl, hD⟩ := hq
  exact w_X2_clear_90 ho ⟨rfl, rfl, rfl, rfl, cLw_tr h0 (cLw_tr h1 (cLw_tr h2 (cLw_tr h3 (cLw_tr h4 (cLw_tr h5 (cLw_tr h6 (cLw_tr h7 (cLw_tr h8 (cLw_tr h9 (cLw_tr hA (cLw_tr hB (cLw_tr hC hD))))))))))))⟩
theorem cFclear (ho : o = 9 ∨ o = 259) (hR : cRf R o) : wkCv l G (d + 4) n_X0_clear [.ref o] I L R (fun I' L' R' => R = R' ∧ L = L' ∧ (∀ k, (k < o ∨ o + 9 < k) → I' k = I k) ∧ (I' o 1 = 0 ∧ I' o 2 = 0 ∧ I' o 5 = 0) ∧ (0 ≤ (I' (o + 6) 2).toInt ∧ (I' (o + 6) 2).toInt ≤ 420) ∧ (∀ j, 13 ≤ j → I' o j = I o j) ∧ (∀ j, 6 ≤ j → I' (o + 6) j = I (o + 6) j)) := by
  refine wkC_of 0 (by decide) (Nat.le_of_ble_eq_true rfl) (w_X0_clear_0 ho hR.2.2.1.2.2.2.2.2 (cLclear (d := d) ho hR) (fun I1 L1 R1 hq => ?_))
  obtain ⟨rfl, rfl, h1⟩ := hq
  refine w_X0_clear_43 ho ⟨rfl, rfl, rfl, rfl, fun k q => ?_, ⟨?_, ?_, ?_⟩, h1.2, fun j q => ?_, fun j q => ?_⟩
  · rw [h1.1.1 k (by omega)]
    exact funext fun j => by rw [qUp_ne (fun w => by omega), qUp_ne (fun w => by omega), qUp_ne (fun w => by omega), qUp_ne (fun w => by omega), qUp_ne (fun w => by omega), qUp_ne (fun w => by omega), qUp_ne (fun w => by omega)]
  · rw [h1.1.1 o (by omega), qUp_ne (by omega), qUp_ne (by omega), qUp_ne (by omega), qUp_ne (by omega), qUp_ne (by omega), qUp_ne (by omega), qUp_at, if_pos ⟨rfl, rfl⟩]
  · rw [h1.1.1 o (by omega), qUp_ne (by omega), qUp_ne (by omega), qUp_ne (by omega), qUp_ne (by omega), qUp_ne (by omega), qUp_at, if_pos ⟨rfl, rfl⟩]
  · rw [h1.1.1 o (by omega), qUp_ne (by omega), qUp_ne (by omega), qUp_ne (by omega), qUp_ne (by omega), qUp_at, if_pos ⟨rfl, rfl⟩]
  · rw [h1.1.1 o (by omega), qUp_ne (by omega), qUp_ne (by omega), qUp_ne (by omega), qUp_ne (by omega), qUp_ne (by omega), qUp_ne (by omega), qUp_ne (by omega)]
  · rw [h1.1.2 j q, qUp_ne (by omega), qUp_ne (by omega), qUp_ne (by omega), qUp_ne (by omega), qUp_ne (by omega), qUp_ne (by omega), qUp_ne (by omega)]
end
/-! a text is read -/
/-- what reading a text may change -/
def cPf (o : Nat) (I0 : qMI) (L0 : qML) (I : qMI) (L : qML) : Prop := (∀ k, k ≠ 3 → k ≠ 4 → k ≠ 6 → k ≠ 7 → (k < o ∨ o + 9 < k) → I k = I0 k) ∧ (∀ j, (j < 2 ∨ 7 < j) → I 3 j = I0 3 j) ∧ (∀ j, j ≠ 4 → I 4 j = I0 4 j) ∧ (∀ k, k ≠ 8 → k ≠ o + 1 → L k = L0 k) ∧ (∀ j, 13 ≤ j → I o j = I0 o j) ∧ (∀ j, 6 ≤ j → I (o + 6) j = I0 (o + 6) j)
section
variable {l : Launch} {G : qG} {d : Nat} {I : qMI} {L : qML} {R : qMR} {o : Nat}
theorem cParse (ho : o = 9 ∨ o = 259) (hR : cRf R o) (hR1 : R 1 0 = some 2) (hs0 : 0 ≤ (I 1 1).toInt) (hs : (I 1 1).toInt ≤ 2000) : wkCi l G (d + 25) n_X1_parse [.ref 3, .ref 1] I L R (fun y I' L' R' => R = R' ∧ ∃ (K S : Nat → Int32) (N : Nat → Int64), (∀ j, j < 401 → K j = pKd (L 5) (cBy I) (cSz I) (pSt (cBy I) (cSz I) j) ∧ (S j).toInt = pSt (cBy I) (cSz I) j ∧ (pSt (cBy I) (cSz I) j < cSz I → (pLe (cBy I (pSt (cBy I) (cSz I) j)) = true ∨ pDi (cBy I (pSt (cBy I) (cSz I) j)) = true) → N j = pVl (cBy I) (cSz I) (pSt (cBy I) (cSz I) j))) ∧ cPf o I L I' L' ∧ cBd o I' ∧ (0 ≤ (I' 3 2).toInt ∧ (I' 3 2).toInt ≤ 400) ∧ (0 ≤ (I' 4 4).toInt ∧ (I' 4 4).toInt ≤ 2000) ∧ y = zAns (zText K S N) ∧ I' 3 5 = zPlc (zText K S N)) := by
  have hcs : cSz I = (I 1 1).toInt.toNat := rfl
  refine wkC_of 1 (by decide) (Nat.le_of_ble_eq_true rfl) (w_X1_parse_0 ho hR.1.2 (cFclear (d := d + 20) ho hR) (fun I1 L1 R1 hq => ?_))
  obtain ⟨rfl, rfl, a1, ⟨a2, a3, a4⟩, a5, a6, a7⟩ := hq
  have u3 : ∀ k, k ≠ 3 → (qUp (qUp (qUp (qUp I 3 4 0) 3 5 (-1)) 3 6 0) 3 7 (-1)) k = I k := fun k q => by rw [up3 q, up3 q, up3 q, up3 q]
  have b1 : I1 1 1 = I 1 1 := by rw [a1 1 (by omega), u3 1 (by decide)]
  have b2 : cBy I1 = cBy I := funext fun i => by unfold cBy; rw [a1 2 (by omega), u3 2 (by decide)]
  have b3 : cSz I1 = cSz I := by unfold cSz; rw [b1]
  refine w_X1_parse_27 hR.1.1 (cScan (d := d + 19) hR1 hR.2.1 (by rw [b1]; exact hs0) (by rw [b1]; exact hs)) (fun I2 L2 R2 hq => ?_)
  obtain ⟨rfl, ⟨⟨c1, c2⟩, c3, c4⟩, c5⟩ := hq
  rw [b2, b3] at c4 c5
  have i3 : ∀ j, I2 3 j = (qUp (qUp (qUp (qUp I 3 4 0) 3 5 (-1)) 3 6 0) 3 7 (-1)) 3 j := fun j => by rw [c1 3 (by decide) (by decide) (by decide), a1 3 (by omega)]
  have io : ∀ k, o ≤ k → k ≤ o + 9 → I2 k = I1 k := fun k q1 q2 => c1 k (by omega) (by omega) (by omega)
  have f34 : I2 3 4 = 0 := by rw [i3, qUp_ne (by omega), qUp_ne (by omega), qUp_ne (by omega), qUp_at, if_pos ⟨rfl, rfl⟩]
  have f35 : I2 3 5 = -1 := by rw [i3, qUp_ne (by omega), qUp_ne (by omega), qUp_at, if_pos ⟨rfl, rfl⟩]
  have f36 : I2 3 6 = 0 := by rw [i3, qUp_ne (by omega), qUp_at, if_pos ⟨rfl, rfl⟩]
  have e32 : (qUp I2 3 2 0) 3 2 = 0 := by rw [qUp_at, if_pos ⟨rfl, rfl⟩]
  have e6 : (qUp I2 3 2 0) 6 = I2 6 := up3 (by decide)
  refine w_X1_parse_35 hR.1.1 hR.2.1.2.1 (by rw [e32]; exact vin (by decide) (by decide)) ?_
  rw [e32, e6]
  generalize hJ : qUp (qUp I2 3 2 0) 3 3 (I2 6 (0 : Int32).toNatClampNeg) = J
  have j3 : ∀ k, k ≠ 3 → J k = I2 k := fun k q => by rw [← hJ, up3 q, up3 q]
  have jb : cBd o J := by
    unfold cBd
    rw [j3 o (by omega), j3 (o + 6) (by omega), io o (by omega) (by omega), io (o + 6) (by omega) (by omega), a2, a3, a4]
    exact ⟨by decide, by decide, by decide, a5⟩
  have j0 : cH o (I2 6) (I2 7) (L2 8) J L2 ((0, 0, 0), (0, 0), [], 0, 0) := by
    refine ⟨⟨j3 6 (by decide), j3 7 (by decide), rfl⟩, ?_, ?_, fun q => absurd rfl q, fun _ => ⟨⟨?_, ?_⟩, ⟨?_, fun q => absurd rfl q, ?_⟩, trivial, ?_, ?_, ?_⟩, jb⟩
    · rw [← hJ, qUp_ne (by omega), e32]; decide
    · rw [← hJ, qUp_ne (by omega), qUp_ne (by omega)]; exact f34
    · rw [← hJ, qUp_ne (by omega), e32]; rfl
    · rw [j3 6 (by decide), ← hJ, qUp_at, if_pos ⟨rfl, rfl⟩]; rfl
    · rw [← hJ, qUp_ne (by omega), qUp_ne (by omega)]; exact f36
    · rw [← hJ, qUp_ne (by omega), qUp_ne (by omega)]; exact f35
    · rw [j3 o (by omega), io o (by omega) (by omega), a2]; rfl
    · rw [j3 o (by omega), io o (by omega) (by omega), a3]; rfl
    · rw [j3 o (by omega), io o (by omega) (by omega), a4]; rfl
  -- the frame, from what comes behind
  have fr : ∀ (I' : qMI) (L' : qML), cF o J L2 I' L' → cPf o I L I' L' := fun I' L' f => by
    refine ⟨fun k q1 q2 q3 q4 q5 => ?_, fun j q => ?_, fun j q => ?_, fun k q1 q2 => ?_, fun j q => ?_, fun j q => ?_⟩
    · rw [f.1 k q1 q5, j3 k q1, c1 k q2 q3 q4, a1 k q5, u3 k q1]
    · rw [f.2.1 j q, ← hJ, qUp_ne (by omega), qUp_ne (by omega), i3, qUp_ne (by omega), qUp_ne (by omega), qUp_ne (by omega), qUp_ne (by omega)]
    · rw [f.1 4 (by decide) (by omega), j3 4 (by decide), c2 j q, a1 4 (by omega), u3 4 (by decide)]
    · rw [f.2.2.1 k q2, c3 k q1]
    · rw [(f.2.2.2 j (by omega)).1 q, j3 o (by omega), io o (by omega) (by omega), a6 j q, u3 o (by omega)]
    · rw [(f.2.2.2 j (by omega)).2 q, j3 (o + 6) (by omega), io (o + 6) (by omega) (by omega), a7 j q, u3 (o + 6) (by omega)]
  have nx : ∀ (I' : qMI) (L' : qML), cF o J L2 I' L' → 0 ≤ (I' 4 4).toInt ∧ (I' 4 4).toInt ≤ 2000 := fun I' L' f => by
    rw [f.1 4 (by decide) (by omega), j3 4 (by decide)]
    have := pPo_le (cBy I) (cSz I) 401
    rw [c5]
    omega
  have fin : ∀ (I' : qMI) (L' : qML) (z : pZ) (a : Int32), cF o J L2 I' L' → cH o (I2 6) (I2 7) (L2 8) I' L' z → z = zText (I2 6) (I2 7) (L2 8) → wkB l G (d + 24 + 1) n_X1_parse (fun r t I' L' R' => t = 336 ∧ ∃ y, r = some (.int y) ∧ R = R' ∧ ∃ (K S : Nat → Int32) (N : Nat → Int64), (∀ j, j < 401 → K j = pKd (L 5) (cBy I) (cSz I) (pSt (cBy I) (cSz I) j) ∧ (S j).toInt = pSt (cBy I) (cSz I) j ∧ (pSt (cBy I) (cSz I) j < cSz I → (pLe (cBy I (pSt (cBy I) (cSz I) j)) = true ∨ pDi (cBy I (pSt (cBy I) (cSz I) j)) = true) → N j = pVl (cBy I) (cSz I) (pSt (cBy I) (cSz I) j))) ∧ cPf o I L I' L' ∧ cBd o I' ∧ (0 ≤ (I' 3 2).toInt ∧ (I' 3 2).toInt ≤ 400) ∧ (0 ≤ (I' 4 4).toInt ∧ (I' 4 4).toInt ≤ 2000) ∧ y = zAns (zText K S N) ∧ I' 3 5 = zPlc (zText K S N)) 89 [.ref 3, .ref 1, .int a] [] I' L' R := by
    intro I' L' z a f g ez
    obtain ⟨-, h4, -⟩ := cAt g
    obtain ⟨-, g1, g2, g3, g4, g5⟩ := id g
    refine w_X1_parse_89 (fun q => w_X1_parse_119 ⟨rfl, _, rfl, rfl, _, _, _, c4, fr I' L' f, g5, g1, nx I' L' f, ?_, ?_⟩) (fun q => w_X1_parse_96 (fun q2 => w_X1_parse_119 ⟨rfl, _, rfl, rfl, _, _, _, c4, fr I' L' f, g5, g1, nx I' L' f, ?_, ?_⟩) (fun q2 => w_X1_parse_103 (w_X1_parse_119 ⟨rfl, _, rfl, rfl, _, _, _, c4, ?_, cBd_3 ho (cBd_3 ho g5), ?_, ?_, ?_, ?_⟩)))
    · have hn : ¬ pf z = 0 := fun e => q (by rw [h4]; exact e)
      rw [← ez]
      unfold zAns
      rw [if_neg hn]
      exact h4
    · have hn : ¬ pf z = 0 := fun e => q (by rw [h4]; exact e)
      rw [← ez]
      unfold zPlc
      rw [if_neg hn]
      exact g3 hn
    · have hf : pf z = 0 := by rw [← h4]; exact q
      have h36 := (g4 hf).2.1.1
      rw [← ez]
      unfold zAns
      rw [if_pos hf, h4, hf, ← h36]
      exact q2.symm
    · have hf : pf z = 0 := by rw [← h4]; exact q
      have h36 := (g4 hf).2.1.1
      rw [← ez]
      unfold zPlc
      rw [if_pos hf, if_pos (by rw [← h36]; exact q2)]
      exact (g4 hf).2.1.2.2
    · exact fr _ L' (cF_3 (by omega) (cF_3 (by omega) f))
    · rw [qUp_ne (by omega), qUp_ne (by omega)]; exact g1
    · rw [up3 (by decide), up3 (by decide)]; exact nx I' L' f
    · have hf : pf z = 0 := by rw [← h4]; exact q
      have h36 := (g4 hf).2.1.1
      rw [← ez]
      unfold zAns
      rw [if_pos hf, qUp_ne (by omega), qUp_at, if_pos ⟨rfl, rfl⟩]
      exact h36
    · have hf : pf z = 0 := by rw [← h4]; exact q
      have h36 := (g4 hf).2.1
      rw [← ez]
      unfold zPlc
      rw [if_pos hf, if_neg (fun e => q2 (by rw [h36.1]; exact e)), qUp_at, if_pos ⟨rfl, rfl⟩, qUp_ne (by omega)]
      exact h36.2.1 (fun e => q2 (by rw [h36.1]; exact e))
  have loop : ∀ (m : Nat) (a2 : Int32) (I' : qMI) (L' : qML) (z : pZ), 401 - a2.toInt = m → 0 ≤ a2.toInt → cF o J L2 I' L' → cH o (I2 6) (I2 7) (L2 8) I' L' z → pOk z → zAll (I2 6) (I2 7) (L2 8) m z = zText (I2 6) (I2 7) (L2 8) → wkB l G (d + 24 + 1) n_X1_parse (fun r t I' L' R' => t = 336 ∧ ∃ y, r = some (.int y) ∧ R = R' ∧ ∃ (K S : Nat → Int32) (N : Nat → Int64), (∀ j, j < 401 → K j = pKd (L 5) (cBy I) (cSz I) (pSt (cBy I) (cSz I) j) ∧ (S j).toInt = pSt (cBy I) (cSz I) j ∧ (pSt (cBy I) (cSz I) j < cSz I → (pLe (cBy I (pSt (cBy I) (cSz I) j)) = true ∨ pDi (cBy I (pSt (cBy I) (cSz I) j)) = true) → N j = pVl (cBy I) (cSz I) (pSt (cBy I) (cSz I) j))) ∧ cPf o I L I' L' ∧ cBd o I' ∧ (0 ≤ (I' 3 2).toInt ∧ (I' 3 2).toInt ≤ 400) ∧ (0 ≤ (I' 4 4).toInt ∧ (I' 4 4).toInt ≤ 2000) ∧ y = zAns (zText K S N) ∧ I' 3 5 = zPlc (zText K S N)) 58 [.ref 3, .ref 1, .int a2] [] I' L' R := by
    intro m
    induction m with
    | zero =>
      intro a2 I' L' z hm h0 f g hp e
      exact w_X1_parse_58 (fun _ => fin I' L' z a2 f g e) (fun q => absurd (i_lt.mpr (by rw [show (400 : Int32).toInt = 400 from rfl]; omega)) q)
    | succ m ih =>
      intro a2 I' L' z hm h0 f g hp e
      obtain ⟨-, h4, hz⟩ := cAt g
      have stop : ¬ (pf z = 0 ∧ ¬ (I2 6) (pt z) = 0) → z = zText (I2 6) (I2 7) (L2 8) := fun q => by rw [zAll, if_neg q] at e; exact e
      refine w_X1_parse_58 (fun q => absurd (i_lt.mp q) (by rw [show (400 : Int32).toInt = 400 from rfl]; omega)) (fun _ => w_X1_parse_65 (fun q => fin I' L' z a2 f g (stop (fun w => q (by rw [h4]; exact w.1)))) (fun q => ?_))
      have hf : pf z = 0 := by rw [← h4]; exact q
      have ek := (hz hf).2
      refine w_X1_parse_72 (fun q1 => fin I' L' z a2 f g (stop (fun w => w.2 (ek.symm.trans q1)))) (fun q1 => ?_)
      refine w_X1_parse_79 (cTell (d := d) ho hR g hf hp) (fun I3 L3 R3 hq => ?_)
      obtain ⟨rfl, f3, g3⟩ := hq
      rw [zAll, if_pos ⟨hf, fun w => q1 (ek.trans w)⟩] at e
      exact w_X1_parse_83 (ih (a2 + 1) I3 L3 _ (by rw [i_s (by omega)]; omega) (by rw [i_s (by omega)]; omega) (cF_tr f f3) g3 (zTell_ok hp) e)
  exact loop 401 0 J L2 _ (by rfl) (by decide) (cF_rf o J L2) j0 (fun _ => ⟨by decide, by decide, by decide⟩) rfl
end
