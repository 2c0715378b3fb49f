/-! ===== the class's read, the state that it leaves ===== -/
section
variable {l : Launch} {G : qG} {d : Nat} {I : qMI} {L : qML} {R : qMR} {o n : Nat} {A : aD} {f : Nat → Int32} {h sl : Nat → Nat → Int32}
theorem sBeginAnew (hs : cS0 o A f n h sl I R) : wkCv l G (d + 4) n_X8_beginAnew [.ref 0] I L R (fun I' L' R' => R' = R ∧ L' = L ∧ (∀ k, (k < 21 ∨ 27 < k) → k ≠ 35 → k ≠ 248 → k ≠ 249 → I' k = I k) ∧ cS0 o A (bX A) 0 h sl I' R') := by
  obtain ⟨⟨hL, hR, h12⟩, s1, s2, s3⟩ := id hs
  obtain ⟨⟨r2, -, r4, -, r6, r7⟩, -, -, -, rB⟩ := id hR
  have ho := hL.1
  have loop : ∀ (j m : Nat) (y : Int32) (J : qMI), 3 - m = j → m ≤ 3 → y.toInt = m → (∀ k, (k < 21 ∨ 27 < k) → k ≠ 35 → k ≠ 248 → k ≠ 249 → J k = I k) → cS0 o A (bX A) 0 h sl J R → wkB l G (d + 3 + 1) n_X8_beginAnew (fun r t I' L' R' => t = 336 ∧ r = none ∧ R' = R ∧ L' = L ∧ (∀ k, (k < 21 ∨ 27 < k) → k ≠ 35 → k ≠ 248 → k ≠ 249 → I' k = I k) ∧ cS0 o A (bX A) 0 h sl I' R') 28 [.ref 0, .int y] [] J L R := by
    intro j
    induction j with
    | zero =>
      intro m y J hj hm hy hJ hsJ
      obtain rfl : m = 3 := by omega
      exact w_X8_beginAnew_28 (fun _ => w_X8_beginAnew_46 ⟨rfl, rfl, rfl, rfl, hJ, hsJ⟩) (fun q => absurd (i_le.mpr (by rw [show (3 : Int32).toInt = 3 from rfl]; omega)) q)
    | succ j ih =>
      intro m y J hj hm hy hJ hsJ
      exact w_X8_beginAnew_28 (fun q => absurd (i_le.mp q) (by rw [show (3 : Int32).toInt = 3 from rfl]; omega)) (fun _ => w_X8_beginAnew_33 r6 (vin (by omega) (by omega)) (ih (m + 1) _ _ (by omega) (by omega) (by rw [i_s (by omega)]; omega) (fun k a b c e => by rw [qUp_ro c]; exact hJ k a b c e) (cS0_of hsJ (fun k a => qUp_ro (by omega)))))
  refine wkC_of 1 (by decide) (Nat.le_of_ble_eq_true rfl) (w_X8_beginAnew_0 ho r2 h12 (sBegin (d := d) hL (rB 21 bNow) s1) (fun I1 L1 R1 hq => ?_))
  obtain ⟨rfl, rfl, f1, e1⟩ := hq
  refine w_X8_beginAnew_11 r4 (sClear (d := d + 2)) (fun I2 L2 R2 hq => ?_)
  obtain ⟨rfl, rfl, rfl⟩ := hq
  refine w_X8_beginAnew_18 r7 (loop 3 0 0 _ rfl (by decide) rfl (fun k a b c e => by rw [qUp_ro e, qUp_ro b]; exact f1 k a) ?_)
  have fr : ∀ k, (k < 21 ∨ 27 < k) → k ≠ 35 → k ≠ 249 → (qUp (qUp I1 35 2 0) 249 0 0) k = I k := fun k a b c => by rw [qUp_ro c, qUp_ro b]; exact f1 k a
  exact ⟨⟨cHas_fr (fun k a b => fr k (by omega) (by omega) (by omega)) hL, hR, h12⟩, sEq_of e1 (fun k a b => by rw [qUp_ro (by omega), qUp_ro (by omega)]), pEq_of (pEq_0 (h' := h) (pEq_of s2 (fun k a b => f1 k (by omega)))) (fun k a b => qUp_ro (by omega)), fun i hi => sEq_of (s3 i hi) (fun k a b => fr k (by omega) (by omega) (by omega))⟩
theorem cRs_up {j1 j2 : Nat} {x1 x2 : Option Nat} (hR : cRs R) (h1 : j1 = 1) (h2 : j2 = 12) : cRs (qUpR (qUpR R 3 j1 x1) 0 j2 x2) := by
  subst h1 h2
  have e : ∀ k j, ¬ (k = 0 ∧ j = 12) → ¬ (k = 3 ∧ j = 1) → qUpR (qUpR R 3 1 x1) 0 12 x2 k j = R k j := fun k j a b => by rw [qUpR_at, if_neg a, qUpR_at, if_neg b]
  obtain ⟨⟨a1, a2, a3, a4, a5, a6⟩, b1, b2, b3, b4⟩ := hR
  refine ⟨⟨by rw [e 0 2 (by omega) (by omega)]; exact a1, by rw [e 0 3 (by omega) (by omega)]; exact a2, by rw [e 0 4 (by omega) (by omega)]; exact a3, by rw [e 0 5 (by omega) (by omega)]; exact a4, by rw [e 0 6 (by omega) (by omega)]; exact a5, by rw [e 0 7 (by omega) (by omega)]; exact a6⟩, by rw [e 35 0 (by omega) (by omega)]; exact b1, fun i hi => by rw [e 36 i (by omega) (by omega)]; exact b2 i hi, fun i hi => by rw [e 247 i (by omega) (by omega)]; exact b3 i hi, fun b hb j h1 h2 => ?_⟩
  have := bOk hb
  rw [e b j (by omega) (by omega)]
  exact b4 b hb j h1 h2
theorem sRead {o' : Nat} (hs : cS0 o' A f n h sl I R) (hd : cDr o R) (ho : o = 9 ∨ o = 259) (hne : o ≠ o') (h0 : 0 ≤ (I 1 1).toInt) (h1 : (I 1 1).toInt ≤ 2000) : wkC l G 26 n_X8_read [.ref 0] I L R (fun r I' L' R' => ∃ y, r = some (.int y) ∧ ∃ (K S : Nat → Int32) (N : Nat → Int64), (∀ j, j < 401 → K j = pKd (L 5) (cBy I) (cSz I) (pSt (cBy I) (cSz I) j) ∧ (S j).toInt = pSt (cBy I) (cSz I) j ∧ (pSt (cBy I) (cSz I) j < cSz I → (pLe (cBy I (pSt (cBy I) (cSz I) j)) = true ∨ pDi (cBy I (pSt (cBy I) (cSz I) j)) = true) → N j = pVl (cBy I) (cSz I) (pSt (cBy I) (cSz I) j))) ∧ y = zAns (zText K S N) ∧ I' 0 13 = zPlc (zText K S N) ∧ (y = 0 → aOk (aText K S N) ∧ cS0 o (aText K S N) (bX (aText K S N)) 0 h sl I' R') ∧ (y ≠ 0 → cS0 o' A f n h sl I' R')) := by
  obtain ⟨⟨hL, hR, h12⟩, s1, s2, s3⟩ := id hs
  obtain ⟨hF, hVS, r00, r01, r10⟩ := hd
  have ho' := hL.1
  refine wkC_of 1 (by decide) (Nat.le_of_ble_eq_true rfl) (w_X8_read_0 (d := 25) r01 r00 (cParseW (d := 0) ho hF r10 h0 h1) (fun y I1 L1 R1 hq => ?_))
  obtain ⟨rfl, K, S, N, c4, ⟨f1, f2, f3, f4, f5, f6⟩, bd, b3, b4, ey, ep, hD⟩ := hq
  refine w_X8_read_11 (d := 25) r01 r00 r00 (cDrop (d := 24)) (fun y2 I2 L2 R2 hq => ?_)
  obtain ⟨eR, eL, hy⟩ := hq
  subst R2
  subst L2
  have u0 : (qUp I1 0 13 (I1 3 5)) 1 = I 1 := by rw [qUp_ro (by decide), f1 1 (by decide) (by decide) (by decide) (by decide) (Or.inl (by omega))]
  rcases hy with ⟨rfl, -, rfl⟩ | ⟨rfl, hn, -⟩
  rotate_left
  · exact absurd ⟨by rw [u0]; omega, Int.le_refl _⟩ hn
  have jk : ∀ x : Int32, ∀ k, k ≠ 0 → k ≠ 1 → (qUp (qUp I1 0 13 (I1 3 5)) 1 1 x) k = I1 k := fun x k q1 q2 => by rw [qUp_ro q2, qUp_ro q1]
  have j0 : ∀ x : Int32, (qUp (qUp I1 0 13 (I1 3 5)) 1 1 x) 0 13 = I1 3 5 := fun x => by rw [qUp_ne (by omega), qUp_at, if_pos ⟨rfl, rfl⟩]
  generalize ((qUp I1 0 13 (I1 3 5)) 1 1 - (qUp I1 0 13 (I1 3 5)) 1 1) = x at jk j0 ⊢
  have jk := jk x
  have j0 := j0 x
  generalize qUp (qUp I1 0 13 (I1 3 5)) 1 1 x = J at jk j0 ⊢
  have fr : ∀ k, (o' ≤ k ∧ k ≤ o' + 9) ∨ (21 ≤ k ∧ k ≤ 27) ∨ (35 ≤ k ∧ k ≤ 246) ∨ (271 ≤ k ∧ k ≤ 291) → J k = I k := fun k a => by
    rw [jk k (by omega) (by omega)]
    exact f1 k (by omega) (by omega) (by omega) (by omega) (by omega)
  have hsJ := cS0_of hs fr
  refine w_X8_read_37 (d := 25) (fun q => w_X8_read_61 (d := 25) ⟨rfl, _, rfl, K, S, N, c4, ey, j0.trans ep, fun z => absurd z q, fun _ => hsJ⟩) (fun q => ?_)
  subst q
  have z0 := zAns_0 ey.symm
  refine w_X8_read_42 (d := 25) r01 h12 (P := fun r I' L' R' => r = some (.ref o) ∧ I' = J ∧ L' = L1 ∧ R' = qUpR R 3 1 (some o')) (wkC_of 1 (by decide) (Nat.le_of_ble_eq_true rfl) (w_X1_handOver_0 (d := 24) hF.1.2 ⟨rfl, rfl, rfl, rfl, rfl⟩)) (fun r I3 L3 R3 hq => ?_)
  obtain ⟨rfl, rfl, rfl, rfl⟩ := hq
  have e : ∀ k j, ¬ (k = 0 ∧ j = 12) → ¬ (k = 3 ∧ j = 1) → qUpR (qUpR R 3 1 (some o')) 0 12 (some o) k j = R k j := fun k j a b => by rw [qUpR_at, if_neg a, qUpR_at, if_neg b]
  have hDt : cDt o I3 (aText K S N) := cDt_fr (fun k a b => jk k (by omega) (by omega)) (hD z0.1)
  have l6 : (aText K S N).1.length ≤ 6 ∧ (aText K S N).2.1.length ≤ 6 := ⟨hDt.1.1.2, hDt.2.1.1.2⟩
  obtain ⟨⟨d1, d2⟩, d3, ⟨d4, d5, d6, d7, d8, d9⟩, d10, d11, d12⟩ := hF
  have hL2 : cHas o I3 (qUpR (qUpR R 3 1 (some o')) 0 12 (some o)) (aText K S N) := by
    refine ⟨ho, ⟨⟨trivial, trivial, trivial, by rw [e _ _ (by omega) (by omega)]; exact d10, by rw [e _ _ (by omega) (by omega)]; exact d11, by rw [e _ _ (by omega) (by omega)]; exact d12⟩, by rw [e _ _ (by omega) (by omega)]; exact hVS.1, by rw [e _ _ (by omega) (by omega)]; exact hVS.2⟩, ⟨by rw [e _ _ (by omega) (by omega)]; exact d9, by rw [e _ _ (by omega) (by omega)]; exact d5, by rw [e _ _ (by omega) (by omega)]; exact d6, by rw [e _ _ (by omega) (by omega)]; exact d7, by rw [e _ _ (by omega) (by omega)]; exact d8⟩, ?_, hDt, aText_wf z0.1⟩
    have := bd.2.2.2
    rw [jk (o + 6) (by omega) (by omega)]
    exact this
  have hs2 : cS0 o (aText K S N) f n h sl I3 (qUpR (qUpR R 3 1 (some o')) 0 12 (some o)) := ⟨⟨hL2, cRs_up hR rfl rfl, by rw [qUpR_at, if_pos ⟨rfl, rfl⟩]⟩, hsJ.2.1, hsJ.2.2.1, hsJ.2.2.2⟩
  refine w_X8_read_54 (d := 25) (sBeginAnew (d := 21) hs2) (fun I4 L4 R4 hq => ?_)
  obtain ⟨rfl, rfl, f4', s4⟩ := hq
  exact w_X8_read_61 (d := 25) ⟨rfl, _, rfl, K, S, N, c4, ey, by rw [f4' 0 (by omega) (by omega) (by omega) (by omega)]; exact j0.trans ep, fun _ => ⟨aOk_of l6 (aText_b ey.symm), s4⟩, fun z => absurd rfl z⟩
end
