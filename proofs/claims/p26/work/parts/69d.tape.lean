/-! ===== the tapes, the words, the place are alike ===== -/
def vWd (L : qML) : Prop := L 5 = L 299 ∧ ∀ a b, a < 23 → b < 23 → L 299 a = L 299 b → a = b
def vTd (I : qMI) : Prop := I 249 0 = I 292 58 ∧ ∀ i, i < 3 → I 248 i = I 334 i
theorem vTd_of {I I' : qMI} (h : vTd I) (h9 : I' 249 = I 249) (h58 : I' 292 58 = I 292 58) (h8 : I' 248 = I 248) (h4 : I' 334 = I 334) : vTd I' := by
  unfold vTd at h ⊢
  rw [h9, h58, h8, h4]
  exact h
def vI (I : qMI) (L : qML) (R : qMR) : Prop := vInv I L R ∧ I 1 1 = I 292 2 ∧ I 2 = I 293 ∧ vWd L ∧ I 0 13 = I 292 17 ∧ vTd I
abbrev vIQ : qQ := fun r t I' L' R' => t = 336 ∧ ∃ y, r = some (.int y) ∧ vI I' L' R'
theorem vWd_of {L L' : qML} (h : vWd L) (h5 : L' 5 = L 5) (h9 : L' 299 = L 299) : vWd L' := ⟨by rw [h5, h9]; exact h.1, by rw [h9]; exact h.2⟩
theorem vI_of {I I' : qMI} {L L' : qML} {R R' : qMR} {r : Option Value} {t : Nat} (hv : vI I L R) (h : vR I L r t I' L' R') : vIQ r t I' L' R' := by
  obtain ⟨e, ⟨y, rfl⟩, h1, u, s⟩ := h
  obtain ⟨-, v1, v2, v3, v4, v5⟩ := hv
  refine ⟨e, y, rfl, h1, ?_, ?_, vWd_of v3 (u 5 (by decide)).2 (u 299 (by decide)).2, ?_, vTd_of v5 (u 249 (by decide)).1 (s 58 (by decide)) (u 248 (by decide)).1 (u 334 (by decide)).1⟩
  · rw [(u 1 (by decide)).1, s 2 (by decide)]; exact v1
  · rw [(u 2 (by decide)).1, (u 293 (by decide)).1]; exact v2
  · rw [(u 0 (by decide)).1, s 17 (by decide)]; exact v4
def zCl (A : zAm) : Prop := (ztag (zcell A 0) = 8 ∧ zraw (zcell A 0) 0 = 2) ∧ zcell A 1 = zk14 ∧ zlx (zcell A 2) = true ∧ ∀ k, k < 336 → ztag (zcell A k) ≠ 13
theorem zCl0 : zCl zAi0 := ⟨⟨by decide +kernel, by decide +kernel⟩, by decide +kernel, by decide +kernel, zRef0.c13⟩
theorem zCl1 : zCl zAi1 := ⟨⟨by decide +kernel, by decide +kernel⟩, by decide +kernel, by decide +kernel, zRef1.c13⟩
theorem vC {I : qMI} {L : qML} {R : qMR} (hv : vInv I L R) : ∃ A, zCl A ∧ zM (I, L, R) 336 A I L R ∧ zGood (I, L, R) ∧ ∀ I' L' R', zM (I', L', R') 336 A I' L' R' ∧ zGood (I', L', R') → vInv I' L' R' := by
  obtain ⟨hm | hm, hg⟩ := hv
  · exact ⟨_, zCl0, hm, hg, fun I' L' R' h => ⟨Or.inl h.1, h.2⟩⟩
  · exact ⟨_, zCl1, hm, hg, fun I' L' R' h => ⟨Or.inr h.1, h.2⟩⟩
theorem zC1 {A : zAm} {I : qMI} {L : qML} {R : qMR} (hA : zCl A) (hm : zM (I, L, R) 336 A I L R) : R 0 0 = some 1 ∧ R 1 0 = some 2 ∧ (0 ≤ (I 1 1).toInt ∧ (I 1 1).toInt ≤ 2000) ∧ ∀ j, zkd 5 j = 0 → zin (Nat.xor (zraw zk14 j) 2147483648) (I 1 j) := by
  obtain ⟨⟨a1, a2⟩, a3, -, -⟩ := hA
  obtain ⟨-, -, -, -, f5⟩ := zM_at hm (a := 0) (tg := 8) (by rw [a1]; rfl) (by omega)
  obtain ⟨-, -, -, -, g5⟩ := zM_at hm (a := 1) (tg := 5) (by rw [a3]; decide +kernel) (by omega)
  have r1 := (f5 0).2.2 (zkd_R (by decide) rfl)
  have r2 := (g5 0).2.2 (zkd_R (by decide) rfl)
  have s1 := (g5 1).1 (zkd_I (by decide) rfl)
  rw [a2] at r1
  rw [a3, show zraw zk14 0 = 3 from by decide +kernel] at r2
  rw [a3] at s1
  have := zin_b2 s1 (a := 2147483648) (b := 2147485648) (by decide +kernel) (by decide +kernel)
  refine ⟨r1, r2, by omega, fun j hj => ?_⟩
  have := (g5 j).1 hj
  rw [a3] at this
  exact this
theorem vTapeC {A : zAm} {I I' : qMI} {L : qML} {R : qMR} (hA : zCl A) (hm : zM (I, L, R) 336 A I L R) (hg : zGood (I, L, R)) (h : cTp I I') (h1 : 0 ≤ (I' 1 1).toInt ∧ (I' 1 1).toInt ≤ 2000) : zM (I', L, R) 336 A I' L R ∧ zGood (I', L, R) := by
  obtain ⟨-, -, -, hj⟩ := zC1 hA hm
  obtain ⟨-, a3, a4, a5⟩ := hA
  refine ⟨zM_ch hm a5 (fun k hk' => ?_), zGood_ok _ I' L R hg (fun x hx => ⟨h.1 x (fun e => ?_) (fun e => ?_), rfl, rfl⟩) (fun j _ => by rw [h.1 292 (by decide) (by decide)])⟩
  · by_cases e : k = 1
    · subst e
      have t5 : ztag (zcell A 1) = 5 := by rw [a3]; decide +kernel
      refine Or.inr (Or.inr ⟨fun _ j hq => ?_, fun q _ => by omega⟩)
      rw [t5] at hq
      by_cases e2 : j = 1
      · subst e2
        have ec : Nat.xor (zraw (zcell A 1) 1) 2147483648 = 9223372043297228752 := by rw [a3]; decide +kernel
        rw [ec]
        exact zin_of (a := 2147483648) (b := 2147485648) (by decide +kernel) (by decide +kernel) (by omega) (by omega)
      · rw [h.2 j e2, a3]
        exact hj j hq
    · by_cases e2 : k = 2
      · subst e2
        exact Or.inr (Or.inl a4)
      · exact Or.inl (h.1 k e e2)
  · subst e
    revert hx
    decide
  · subst e
    revert hx
    decide
theorem nar_and (x : Int32) : vp_nar .byte x &&& 255 = x &&& 255 := by
  show x.toInt8.toInt32 &&& 255 = x &&& 255
  apply Int32.toBitVec_inj.mp
  rw [Int32.toBitVec_and, Int32.toBitVec_and, Int8.toBitVec_toInt32, Int32.toBitVec_toInt8]
  apply BitVec.eq_of_getLsbD_eq
  intro i hi
  rw [BitVec.getLsbD_and, BitVec.getLsbD_and]
  by_cases h : i < 8
  · rw [BitVec.getLsbD_signExtend, if_pos h, BitVec.getLsbD_signExtend, if_pos hi, decide_eq_true h, decide_eq_true hi, Bool.true_and, Bool.true_and]
  · have e : (Int32.toBitVec 255).getLsbD i = false := by
      have : ∀ j, j < 32 → ¬ j < 8 → (Int32.toBitVec 255).getLsbD j = false := by decide
      exact this i hi h
    rw [e, Bool.and_false, Bool.and_false]
def vMr (y : Int32) (I : qMI) (L : qML) (R : qMR) : Prop := vInv I L R ∧ I 1 1 = 0 ∧ I 2 = I 293 ∧ vWd L ∧ ∃ (K S : Nat → Int32) (N : Nat → Int64), pSpec (L 299) (fun i => vp_nar .byte (I 293 i) &&& 255) (I 292 2).toInt.toNat K S N ∧ y = zAns (zText K S N) ∧ I 0 13 = zPlc (zText K S N) ∧ (zAns (zText K S N) = 0 → I 249 0 = 0 ∧ ∀ i, i < 3 → I 248 i = 0) ∧ (zAns (zText K S N) ≠ 0 → vTd I)
def vMf (x1 x2 x3 x4 x5 : Int32) (y : Int32) (I : qMI) (L : qML) (R : qMR) : Prop := vInv I L R ∧ vWd L ∧ I 0 13 = I 292 17 ∧ vTd I ∧ (((I 292 2).toInt ≤ 1980 ∧ (I 1 1).toInt = (I 292 2).toInt + 20 ∧ y = I 1 1 ∧ I 2 = tF x1 x2 x3 x4 x5 (I 293) (I 292 2).toInt.toNat) ∨ (1980 < (I 292 2).toInt ∧ I 1 1 = I 292 2 ∧ I 2 = I 293 ∧ y = -1))
def vMb (x : Int32) (y : Int32) (I : qMI) (L : qML) (R : qMR) : Prop := vInv I L R ∧ vWd L ∧ I 0 13 = I 292 17 ∧ vTd I ∧ I 2 = I 293 ∧ (((0 ≤ x.toInt ∧ x.toInt ≤ (I 292 2).toInt) ∧ (I 1 1).toInt = (I 292 2).toInt - x.toInt ∧ y = I 1 1) ∨ (¬ (0 ≤ x.toInt ∧ x.toInt ≤ (I 292 2).toInt) ∧ I 1 1 = I 292 2 ∧ y = -1))
def vMp (y : Int32) (I : qMI) (L : qML) (R : qMR) : Prop := vI I L R ∧ y = I 0 13
section
variable {l : Launch} {G : qG} {I : qMI} {L : qML} {R : qMR}
theorem iC_read (hv : vI I L R) : qCall l G 26 n_X8_read [.ref 0] 336 I L R (fun r t I' L' R' => t = 336 ∧ ∃ y, r = some (.int y) ∧ vMr y I' L' R') := by
  obtain ⟨⟨hm, hg⟩, h1, h2, h3, h4, h5⟩ := hv
  have key : qCall l G 26 n_X8_read [.ref 0] 336 I L R (fun r t I' L' R' => t = 336 ∧ cRdP I L r I' L' R') := by
    rcases hm with hm | hm
    · exact cRead0 hm hg
    · exact cRead1 hm hg
  refine qCall_mono key ?_
  intro r t I' L' R' hq
  obtain ⟨e, y, rfl, hv', K, S, N, hs, ey, ep, s1, s2, s5, gk, n1, n2, n3, n4⟩ := hq
  have g2 := (gk 292 (by decide) (by decide)).1
  have g3 := (gk 293 (by decide) (by decide)).1
  have g9 := (gk 299 (by decide) (by decide)).2
  refine ⟨e, y, rfl, hv', s1, by rw [s2, g3, h2], vWd_of h3 s5 g9, K, S, N, ?_, ey, ep, fun w => ⟨n1 w, n3 w⟩, fun w => vTd_of h5 (n2 w) (by rw [g2]) (n4 w) (gk 334 (by decide) (by decide)).1⟩
  have hb : (fun i => vp_nar .byte (I 293 i) &&& 255) = cBy I := funext fun i => by rw [← h2]; exact nar_and _
  rw [g9, g3, g2, hb, ← h3.1, ← h1]
  exact hs
theorem iM_read {y : Int32} (hv : vMr y I L R) : qCall l G 26 n_X9_read [.ref 292] 336 I L R (fun r t I' L' R' => t = 336 ∧ ∃ y2, r = some (.int y2) ∧ y2 = y ∧ vI I' L' R') := by
  obtain ⟨hv, s1, s2, hw, K, S, N, hs, ey, ep, n1, n2⟩ := hv
  obtain ⟨A, hA, hm, hg, hk⟩ := vM hv
  refine qCall_mono (rRead (d := 18) (vRR hA hm) (w := L 299) hw.2 (fun _ _ => rfl) hs (vRi hA hm hg)) ?_
  intro r t I' L' R' hq
  obtain ⟨rfl, rfl, y2, rfl, hp, e1, e2, e3, e4, e5⟩ := hq
  refine ⟨rfl, y2, rfl, e1.trans ey.symm, hk _ _ _ (vRead hA hm hp), ?_, ?_, vWd_of hw (e3 5 (by decide) (by decide)) (e3 299 (by decide) (by decide)), ?_, ?_⟩
  · rw [hp.2.2.2.1, hp.2.1 1 (by decide) (Or.inl (by decide))]
    exact s1
  · rw [hp.2.1 2 (by decide) (Or.inl (by decide)), hp.2.1 293 (by decide) (Or.inl (by decide))]
    exact s2
  · rw [hp.2.1 0 (by decide) (Or.inl (by decide)), e2]
    exact ep
  · have e249 : I' 249 = I 249 := hp.2.1 249 (by decide) (Or.inl (by decide))
    by_cases w : zAns (zText K S N) = 0
    · have e248 : I' 248 = I 248 := hp.2.1 248 (by decide) (Or.inl (by decide))
      exact ⟨by rw [e249, (n1 w).1, (e4 w).2.1], fun i hi => by rw [e248, (n1 w).2 i hi, (e4 w).2.2 i hi]⟩
    · exact vTd_of (n2 w) e249 (e5 w).2.1 (hp.2.1 248 (by decide) (Or.inl (by decide))) (e5 w).2.2
theorem iC_feed (hv : vI I L R) (x1 x2 x3 x4 x5 : Int32) : qCall l G 26 n_X8_feed [.ref 0, .int x1, .int x2, .int x3, .int x4, .int x5] 336 I L R (fun r t I' L' R' => t = 336 ∧ ∃ y, r = some (.int y) ∧ vMf x1 x2 x3 x4 x5 y I' L' R') := by
  obtain ⟨hv, h0, h2, h3, h4, h5⟩ := hv
  obtain ⟨A, hA, hm, hg, hk⟩ := vC hv
  obtain ⟨r1, r2, ⟨s1, s2⟩, -⟩ := zC1 hA hm
  refine qCall_mono (cFeed (d := 24) r1 r2 s1 s2) ?_
  intro r t I' L' R' hq
  obtain ⟨rfl, y, rfl, rfl, rfl, hp, hc⟩ := hq
  have e292 : I' 292 = I 292 := hp.1 292 (by decide) (by decide)
  have e293 : I' 293 = I 293 := hp.1 293 (by decide) (by decide)
  have e0 : I' 0 = I 0 := hp.1 0 (by decide) (by decide)
  rcases hc with ⟨a1, a2, a3, a4⟩ | ⟨a1, rfl, a3⟩
  · refine ⟨rfl, y, rfl, hk _ _ _ (vTapeC hA hm hg hp (by omega)), h3, by rw [e0, e292]; exact h4, vTd_of h5 (hp.1 249 (by decide) (by decide)) (by rw [e292]) (hp.1 248 (by decide) (by decide)) (hp.1 334 (by decide) (by decide)), Or.inl ⟨?_, ?_, a3, ?_⟩⟩
    · rw [e292, ← h0]; exact a1
    · rw [e292, ← h0]; exact a2
    · rw [a4, e293, e292, ← h0, h2]
  · exact ⟨rfl, y, rfl, hv, h3, h4, h5, Or.inr ⟨by rw [← h0]; exact a1, h0, h2, a3⟩⟩
theorem iM_feed {y : Int32} (x1 x2 x3 x4 x5 : Int32) (hv : vMf x1 x2 x3 x4 x5 y I L R) : qCall l G 26 n_X9_feed [.ref 292, .int x1, .int x2, .int x3, .int x4, .int x5] 336 I L R (fun r t I' L' R' => t = 336 ∧ ∃ y2, r = some (.int y2) ∧ y2 = y ∧ vI I' L' R') := by
  obtain ⟨hv, hw, h4, h5, h0⟩ := hv
  obtain ⟨A, hA, hm, hg, hk⟩ := vM hv
  obtain ⟨⟨t1, t2⟩, -⟩ := vRi hA hm hg
  refine qCall_mono (eFeed (d := 24) (vRR hA hm) t1 t2) ?_
  intro r t I' L' R' hq
  obtain ⟨rfl, rfl, y2, rfl, rfl, hp, hc⟩ := hq
  have e1 : I' 1 = I 1 := hp.1 1 (by decide) (by decide)
  have e2 : I' 2 = I 2 := hp.1 2 (by decide) (by decide)
  have e0 : I' 0 = I 0 := hp.1 0 (by decide) (by decide)
  have e17 : I' 292 17 = I 292 17 := hp.2 17 (by decide)
  rcases hc with ⟨a1, a2, a3, a4⟩ | ⟨a1, rfl, a3⟩
  · rcases h0 with ⟨b1, b2, b3, b4⟩ | ⟨b1, -⟩
    · have ee : I' 1 1 = I' 292 2 := i_eq.mpr (by rw [e1]; omega)
      exact ⟨rfl, y2, rfl, by rw [a3, b3, ← ee, e1], hk _ _ _ (vTape hA hm hg hp (by omega)), ee, by rw [e2, b4, a4], hw, by rw [e0, e17]; exact h4, vTd_of h5 (hp.1 249 (by decide) (by decide)) (hp.2 58 (by decide)) (hp.1 248 (by decide) (by decide)) (hp.1 334 (by decide) (by decide))⟩
    · omega
  · rcases h0 with ⟨b1, -⟩ | ⟨b1, b2, b3, b4⟩
    · omega
    · exact ⟨rfl, y2, rfl, by rw [a3, b4], hv, b2, b3, hw, h4, h5⟩
theorem iC_back (hv : vI I L R) (x1 : Int32) : qCall l G 26 n_X8_back [.ref 0, .int x1] 336 I L R (fun r t I' L' R' => t = 336 ∧ ∃ y, r = some (.int y) ∧ vMb x1 y I' L' R') := by
  obtain ⟨hv, h0, h2, h3, h4, h5⟩ := hv
  obtain ⟨A, hA, hm, hg, hk⟩ := vC hv
  obtain ⟨r1, r2, ⟨s1, s2⟩, -⟩ := zC1 hA hm
  refine qCall_mono (cBack (d := 24) r1) ?_
  intro r t I' L' R' hq
  obtain ⟨rfl, y, rfl, rfl, rfl, hp, h2', hc⟩ := hq
  have e292 : I' 292 = I 292 := hp.1 292 (by decide) (by decide)
  have e293 : I' 293 = I 293 := hp.1 293 (by decide) (by decide)
  have e0 : I' 0 = I 0 := hp.1 0 (by decide) (by decide)
  rcases hc with ⟨a1, a2, a3⟩ | ⟨a1, rfl, a3⟩
  · refine ⟨rfl, y, rfl, hk _ _ _ (vTapeC hA hm hg hp (by omega)), h3, by rw [e0, e292]; exact h4, vTd_of h5 (hp.1 249 (by decide) (by decide)) (by rw [e292]) (hp.1 248 (by decide) (by decide)) (hp.1 334 (by decide) (by decide)), by rw [h2', e293]; exact h2, Or.inl ⟨?_, ?_, a3⟩⟩
    · rw [e292, ← h0]; exact a1
    · rw [e292, ← h0]; exact a2
  · exact ⟨rfl, y, rfl, hv, h3, h4, h5, h2, Or.inr ⟨by rw [← h0]; exact a1, h0, a3⟩⟩
theorem iM_back {y : Int32} (x1 : Int32) (hv : vMb x1 y I L R) : qCall l G 26 n_X9_back [.ref 292, .int x1] 336 I L R (fun r t I' L' R' => t = 336 ∧ ∃ y2, r = some (.int y2) ∧ y2 = y ∧ vI I' L' R') := by
  obtain ⟨hv, hw, h4, h5, h2, h0⟩ := hv
  obtain ⟨A, hA, hm, hg, hk⟩ := vM hv
  obtain ⟨⟨t1, t2⟩, -⟩ := vRi hA hm hg
  refine qCall_mono (eBack (d := 25) t1 t2) ?_
  intro r t I' L' R' hq
  obtain ⟨rfl, rfl, y2, rfl, rfl, hp, h2', hc⟩ := hq
  have e1 : I' 1 = I 1 := hp.1 1 (by decide) (by decide)
  have e2 : I' 2 = I 2 := hp.1 2 (by decide) (by decide)
  have e0 : I' 0 = I 0 := hp.1 0 (by decide) (by decide)
  have e17 : I' 292 17 = I 292 17 := hp.2 17 (by decide)
  rcases hc with ⟨a1, a2, a3⟩ | ⟨a1, rfl, a3⟩
  · rcases h0 with ⟨b1, b2, b3⟩ | ⟨b1, -⟩
    · have ee : I' 1 1 = I' 292 2 := i_eq.mpr (by rw [e1]; omega)
      exact ⟨rfl, y2, rfl, by rw [a3, b3, ← ee, e1], hk _ _ _ (vTape hA hm hg hp (by omega)), ee, by rw [e2, h2', h2], hw, by rw [e0, e17]; exact h4, vTd_of h5 (hp.1 249 (by decide) (by decide)) (hp.2 58 (by decide)) (hp.1 248 (by decide) (by decide)) (hp.1 334 (by decide) (by decide))⟩
    · exact absurd a1 b1
  · rcases h0 with ⟨b1, -⟩ | ⟨b1, b2, b3⟩
    · exact absurd b1 a1
    · exact ⟨rfl, y2, rfl, by rw [a3, b3], hv, b2, h2, hw, h4, h5⟩
theorem iC_place (hv : vI I L R) : qCall l G 26 n_X8_place [.ref 0] 336 I L R (fun r t I' L' R' => t = 336 ∧ ∃ y, r = some (.int y) ∧ vMp y I' L' R') := wkC_of (d := 26) 0 (by decide) (Nat.le_of_ble_eq_true rfl) (w_X8_place_0 (d := 25) ⟨rfl, _, rfl, hv, rfl⟩)
theorem iM_place {y : Int32} (hv : vMp y I L R) : qCall l G 26 n_X9_place [.ref 292] 336 I L R (fun r t I' L' R' => t = 336 ∧ ∃ y2, r = some (.int y2) ∧ y2 = y ∧ vI I' L' R') := wkC_of (d := 26) 0 (by decide) (Nat.le_of_ble_eq_true rfl) (w_X9_place_0 (d := 25) ⟨rfl, _, rfl, by rw [hv.2]; exact hv.1.2.2.2.2.1.symm, hv.1⟩)
def vMt (x a n : Int32) (y : Int32) (I : qMI) (L : qML) (R : qMR) : Prop := vInv I L R ∧ (I 1 1 = I 292 2 ∧ I 2 = I 293 ∧ vWd L ∧ I 0 13 = I 292 17 ∧ ∀ i, i < 3 → I 248 i = I 334 i) ∧ (((I 292 58).toInt < 20 ∧ oTl x a n ∧ (I 249 0).toInt = (I 292 58).toInt + 1 ∧ y = I 292 58) ∨ (¬ ((I 292 58).toInt < 20 ∧ oTl x a n) ∧ I 249 0 = I 292 58 ∧ y = -1))
def vMg (y : Int32) (I : qMI) (L : qML) (R : qMR) : Prop := vInv I L R ∧ (I 1 1 = I 292 2 ∧ I 2 = I 293 ∧ vWd L ∧ I 0 13 = I 292 17 ∧ ∀ i, i < 3 → I 248 i = I 334 i) ∧ I 249 0 = 0 ∧ y = I 292 58
theorem iC_tell (hv : vI I L R) (x1 x2 x3 : Int32) : qCall l G 26 n_X8_tell [.ref 0, .int x1, .int x2, .int x3] 336 I L R (fun r t I' L' R' => t = 336 ∧ ∃ y, r = some (.int y) ∧ vMt x1 x2 x3 y I' L' R') := by
  obtain ⟨hv, h0, h2, h3, h4, h5⟩ := hv
  obtain ⟨A, hA, ⟨r1, r2, r3, r4, r5⟩, hm, hg, hk⟩ := vTl hv
  obtain ⟨⟨b1, b2⟩, b3, b4⟩ := zTd_b hA hm
  have h7 := h5.2
  have h5 : I 249 0 = I 292 58 := h5.1
  refine qCall_mono (cTellT (d := 24) r1 r2 r3 r4 r5 b1) ?_
  intro r t I' L' R' hq
  obtain ⟨rfl, y, rfl, rfl, rfl, hp, hc⟩ := hq
  have fr : ∀ k, k ≠ 249 → k ≠ 250 → k ≠ 251 → k ≠ 252 → I' k = I k := hp.1
  have f292 := fr 292 (by decide) (by decide) (by decide) (by decide)
  have base : I' 1 1 = I' 292 2 ∧ I' 2 = I' 293 ∧ vWd L' ∧ I' 0 13 = I' 292 17 ∧ ∀ i, i < 3 → I' 248 i = I' 334 i := by
    rw [f292, fr 248 (by decide) (by decide) (by decide) (by decide), fr 334 (by decide) (by decide) (by decide) (by decide), fr 1 (by decide) (by decide) (by decide) (by decide), fr 2 (by decide) (by decide) (by decide) (by decide), fr 293 (by decide) (by decide) (by decide) (by decide), fr 0 (by decide) (by decide) (by decide) (by decide)]
    exact ⟨h0, h2, h3, h4, h7⟩
  rcases hc with ⟨a1, a2, a3, a4⟩ | ⟨a1, a2, a3⟩
  · refine ⟨rfl, y, rfl, hk _ _ _ (vToldC hA hm hg hp (by omega)), base, Or.inl ⟨?_, a2, ?_, ?_⟩⟩
    · rw [f292, ← h5]; exact a1
    · rw [f292, ← h5]; exact a3
    · rw [f292, ← h5]; exact a4
  · refine ⟨rfl, y, rfl, hk _ _ _ (vToldC hA hm hg hp (by rw [a2]; omega)), base, Or.inr ⟨?_, ?_, a3⟩⟩
    · rw [f292, ← h5]; exact a1
    · rw [f292, ← h5]; exact a2
theorem iM_tell {y : Int32} (x1 x2 x3 : Int32) (hv : vMt x1 x2 x3 y I L R) : qCall l G 26 n_X9_tell [.ref 292, .int x1, .int x2, .int x3] 336 I L R (fun r t I' L' R' => t = 336 ∧ ∃ y2, r = some (.int y2) ∧ y2 = y ∧ vI I' L' R') := by
  obtain ⟨hv, ⟨h0, h2, h3, h4, h7⟩, h5⟩ := hv
  obtain ⟨A2, hA2, hm2, -, -⟩ := vM hv
  have hwR := vRR hA2 hm2
  obtain ⟨A, hA, -, hm, hg, hk⟩ := vTl hv
  obtain ⟨⟨b1, b2⟩, b3, b4⟩ := zTd_b hA hm
  refine qCall_mono (eTellT (d := 23) hwR b3 b4) ?_
  intro r t I' L' R' hq
  obtain ⟨rfl, rfl, y2, rfl, rfl, hp, hc⟩ := hq
  have fr : ∀ k, k < 292 ∨ k = 293 ∨ k = 334 → I' k = I k := fun k q => hp.1 k (by omega) (by omega) (by omega) (by omega)
  have base : I' 1 1 = I' 292 2 ∧ I' 2 = I' 293 ∧ vWd L' ∧ I' 0 13 = I' 292 17 ∧ ∀ i, i < 3 → I' 248 i = I' 334 i := by
    rw [hp.2 2 (by decide), fr 248 (by decide), fr 334 (by decide), hp.2 17 (by decide), fr 1 (by decide), fr 2 (by decide), fr 293 (by decide), fr 0 (by decide)]
    exact ⟨h0, h2, h3, h4, h7⟩
  have f249 := fr 249 (by decide)
  rcases hc with ⟨a1, a2, a3, a4⟩ | ⟨a1, a2, a3⟩
  · rcases h5 with ⟨c1, c2, c3, c4⟩ | ⟨c1, -⟩
    · exact ⟨rfl, y2, rfl, by rw [a4, c4], hk _ _ _ (vToldM hA hm hg hp (by omega)), base.1, base.2.1, base.2.2.1, base.2.2.2.1, ⟨i_eq.mpr (by rw [f249]; omega), base.2.2.2.2⟩⟩
    · exact absurd ⟨a1, a2⟩ c1
  · rcases h5 with ⟨c1, c2, -⟩ | ⟨c1, c2, c3⟩
    · exact absurd ⟨c1, c2⟩ a1
    · exact ⟨rfl, y2, rfl, by rw [a3, c3], hk _ _ _ (vToldM hA hm hg hp (by rw [a2]; omega)), base.1, base.2.1, base.2.2.1, base.2.2.2.1, ⟨by show I' 249 0 = I' 292 58; rw [f249, a2]; exact c2, base.2.2.2.2⟩⟩
theorem iC_forget (hv : vI I L R) : qCall l G 26 n_X8_forget [.ref 0] 336 I L R (fun r t I' L' R' => t = 336 ∧ ∃ y, r = some (.int y) ∧ vMg y I' L' R') := by
  obtain ⟨hv, h0, h2, h3, h4, h5⟩ := hv
  obtain ⟨A, hA, ⟨r1, r2, r3, r4, r5⟩, hm, hg, hk⟩ := vTl hv
  have h7 := h5.2
  have h5 : I 249 0 = I 292 58 := h5.1
  refine qCall_mono (cForT (d := 25) r1) ?_
  intro r t I' L' R' hq
  obtain ⟨rfl, y, rfl, rfl, rfl, hp, hc, hc0⟩ := hq
  have fr : ∀ k, k ≠ 249 → k ≠ 250 → k ≠ 251 → k ≠ 252 → I' k = I k := hp.1
  have f292 := fr 292 (by decide) (by decide) (by decide) (by decide)
  have base : I' 1 1 = I' 292 2 ∧ I' 2 = I' 293 ∧ vWd L' ∧ I' 0 13 = I' 292 17 ∧ ∀ i, i < 3 → I' 248 i = I' 334 i := by
    rw [f292, fr 248 (by decide) (by decide) (by decide) (by decide), fr 334 (by decide) (by decide) (by decide) (by decide), fr 1 (by decide) (by decide) (by decide) (by decide), fr 2 (by decide) (by decide) (by decide) (by decide), fr 293 (by decide) (by decide) (by decide) (by decide), fr 0 (by decide) (by decide) (by decide) (by decide)]
    exact ⟨h0, h2, h3, h4, h7⟩
  exact ⟨rfl, y, rfl, hk _ _ _ (vToldC hA hm hg hp (by rw [hc0]; decide)), base, hc0, by rw [f292, ← h5]; exact hc⟩
theorem iM_forget {y : Int32} (hv : vMg y I L R) : qCall l G 26 n_X9_forget [.ref 292] 336 I L R (fun r t I' L' R' => t = 336 ∧ ∃ y2, r = some (.int y2) ∧ y2 = y ∧ vI I' L' R') := by
  obtain ⟨hv, ⟨h0, h2, h3, h4, h7⟩, h5, h6⟩ := hv
  obtain ⟨A, hA, -, hm, hg, hk⟩ := vTl hv
  refine qCall_mono (eForT (d := 25)) ?_
  intro r t I' L' R' hq
  obtain ⟨rfl, rfl, y2, rfl, rfl, hp, hc, hc0⟩ := hq
  have fr : ∀ k, k < 292 ∨ k = 293 ∨ k = 334 → I' k = I k := fun k q => hp.1 k (by omega) (by omega) (by omega) (by omega)
  have base : I' 1 1 = I' 292 2 ∧ I' 2 = I' 293 ∧ vWd L' ∧ I' 0 13 = I' 292 17 ∧ ∀ i, i < 3 → I' 248 i = I' 334 i := by
    rw [hp.2 2 (by decide), fr 248 (by decide), fr 334 (by decide), hp.2 17 (by decide), fr 1 (by decide), fr 2 (by decide), fr 293 (by decide), fr 0 (by decide)]
    exact ⟨h0, h2, h3, h4, h7⟩
  exact ⟨rfl, y2, rfl, by rw [hc, h6], hk _ _ _ (vToldM hA hm hg hp (by rw [hc0]; decide)), base.1, base.2.1, base.2.2.1, base.2.2.2.1, ⟨by show I' 249 0 = I' 292 58; rw [fr 249 (by decide), hc0]; exact h5, base.2.2.2.2⟩⟩

end
