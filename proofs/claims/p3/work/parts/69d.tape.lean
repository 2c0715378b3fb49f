/-! ===== both tapes are as long ===== -/
def vI (I : qMI) (L : qML) (R : qMR) : Prop := vInv I L R ∧ I 1 1 = I 292 2
abbrev vIQ : qQ := fun r t I' L' R' => t = 336 ∧ ∃ y, r = some (.int y) ∧ vI I' L' R'
theorem vI_of {I I' : qMI} {L L' : qML} {R R' : qMR} {r : Option Value} {t : Nat} (hv : vI I L R) (h : vR I r t I' L' R') : vIQ r t I' L' R' := by
  obtain ⟨e, ⟨y, rfl⟩, h1, t1, t2⟩ := h
  exact ⟨e, y, rfl, h1, t1.trans (hv.2.trans t2.symm)⟩
def zCl (A : zAm) : Prop := (ztag (zcell A 0) = 8 ∧ zraw (zcell A 0) 0 = 2) ∧ zcell A 1 = zk25 ∧ zlx (zcell A 2) = true ∧ ∀ k, k < 336 → ztag (zcell A k) ≠ 13
theorem zCl0 : zCl zAi0 := ⟨⟨by decide +kernel, by decide +kernel⟩, by decide +kernel, by decide +kernel, zRef0.c13⟩
theorem zCl1 : zCl zAi1 := ⟨⟨by decide +kernel, by decide +kernel⟩, by decide +kernel, by decide +kernel, zRef1.c13⟩
theorem vC {I : qMI} {L : qML} {R : qMR} (hv : vInv I L R) : ∃ A, zCl A ∧ zM (I, L, R) 336 A I L R ∧ zGood (I, L, R) ∧ ∀ I' L' R', zM (I', L', R') 336 A I' L' R' ∧ zGood (I', L', R') → vInv I' L' R' := by
  obtain ⟨hm | hm, hg⟩ := hv
  · exact ⟨_, zCl0, hm, hg, fun I' L' R' h => ⟨Or.inl h.1, h.2⟩⟩
  · exact ⟨_, zCl1, hm, hg, fun I' L' R' h => ⟨Or.inr h.1, h.2⟩⟩
theorem zC1 {A : zAm} {I : qMI} {L : qML} {R : qMR} (hA : zCl A) (hm : zM (I, L, R) 336 A I L R) : R 0 0 = some 1 ∧ R 1 0 = some 2 ∧ (0 ≤ (I 1 1).toInt ∧ (I 1 1).toInt ≤ 2000) ∧ ∀ j, zkd 5 j = 0 → zin (Nat.xor (zraw zk25 j) 2147483648) (I 1 j) := by
  obtain ⟨⟨a1, a2⟩, a3, -, -⟩ := hA
  obtain ⟨-, -, -, -, f5⟩ := zM_at hm (a := 0) (tg := 8) (by rw [a1]; rfl) (by omega)
  obtain ⟨-, -, -, -, g5⟩ := zM_at hm (a := 1) (tg := 5) (by rw [a3]; decide +kernel) (by omega)
  have r1 := (f5 0).2.2 (zkd_R (by decide) rfl)
  have r2 := (g5 0).2.2 (zkd_R (by decide) rfl)
  have s1 := (g5 1).1 (zkd_I (by decide) rfl)
  rw [a2] at r1
  rw [a3, show zraw zk25 0 = 3 from by decide +kernel] at r2
  rw [a3] at s1
  have := zin_b2 s1 (a := 2147483648) (b := 2147485648) (by decide +kernel) (by decide +kernel)
  refine ⟨r1, r2, by omega, fun j hj => ?_⟩
  have := (g5 j).1 hj
  rw [a3] at this
  exact this
theorem vTapeC {A : zAm} {I I' : qMI} {L : qML} {R : qMR} (hA : zCl A) (hm : zM (I, L, R) 336 A I L R) (hg : zGood (I, L, R)) (h : cTp I I') (h1 : 0 ≤ (I' 1 1).toInt ∧ (I' 1 1).toInt ≤ 2000) : zM (I', L, R) 336 A I' L R ∧ zGood (I', L, R) := by
  obtain ⟨-, -, -, hj⟩ := zC1 hA hm
  obtain ⟨-, a3, a4, a5⟩ := hA
  refine ⟨zM_ch hm a5 (fun k hk' => ?_), zGood_ok _ I' L R hg (fun x hx => ⟨h.1 x (fun e => ?_) (fun e => ?_), rfl, rfl⟩) (fun j _ => by rw [h.1 292 (by decide) (by decide)])⟩
  · by_cases e : k = 1
    · subst e
      have t5 : ztag (zcell A 1) = 5 := by rw [a3]; decide +kernel
      refine Or.inr (Or.inr ⟨fun _ j hq => ?_, fun q _ => by omega⟩)
      rw [t5] at hq
      by_cases e2 : j = 1
      · subst e2
        have ec : Nat.xor (zraw (zcell A 1) 1) 2147483648 = 9223372043297228752 := by rw [a3]; decide +kernel
        rw [ec]
        exact zin_of (a := 2147483648) (b := 2147485648) (by decide +kernel) (by decide +kernel) (by omega) (by omega)
      · rw [h.2 j e2, a3]
        exact hj j hq
    · by_cases e2 : k = 2
      · subst e2
        exact Or.inr (Or.inl a4)
      · exact Or.inl (h.1 k e e2)
  · subst e
    revert hx
    decide
  · subst e
    revert hx
    decide
noncomputable def kR : zKr := fun r t A => bif kV r t A then (bif Nat.beq (ztag (zcell A 1)) 5 then Nat.beq (zraw (zcell A 1) 1) 0 else false) else false
theorem kR0 : gs_X8_read [.inr (.ref 0)] 336 zAi0 kR = true := by decide +kernel
theorem kR1 : gs_X8_read [.inr (.ref 0)] 336 zAi1 kR = true := by decide +kernel
theorem vcallR {l : Launch} {G : qG} {d : Nat} {N : qMn} {g : zMt} {as : List zX} {as' : List Value} {A : zAm} {I : qMI} {L : qML} {R : qMR} (hc : zC l G (I, L, R) d N g) (h : g as 336 A kR = true) (hs : zgs as as') (hm : zM (I, L, R) 336 A I L R) (hg : zGood (I, L, R)) : qCall l G d N as' 336 I L R (fun r t I' L' R' => t = 336 ∧ ∃ y, r = some (.int y) ∧ vInv I' L' R' ∧ I' 1 1 = 0) := by
  refine qCall_mono (hc as 336 A _ h as' I L R hs hm) ?_
  intro r t I1 L1 R1 hq
  obtain ⟨r0, A', q1, q2, q3⟩ := hq
  obtain ⟨q4, q5⟩ := zand q3
  obtain ⟨q6, q7⟩ := zand q5
  obtain ⟨e1, ⟨y, rfl⟩, e3⟩ := kV_t hg q4 q1 q2
  refine ⟨e1, y, rfl, e3, ?_⟩
  obtain ⟨-, -, -, -, g5⟩ := zM_at q2 q6 (by omega)
  have s1 := (g5 1).1 (zkd_I (by decide) rfl)
  rw [Nat.eq_of_beq_eq_true q7] at s1
  have := zin_b2 s1 (a := 2147483648) (b := 2147483648) (by decide) (by decide)
  exact i_eq.mpr (by rw [show (0 : Int32).toInt = 0 from rfl]; omega)
def vMr (I : qMI) (L : qML) (R : qMR) : Prop := vInv I L R ∧ I 1 1 = 0
def vMf (f : Int → Int → Prop) (y : Int32) (I : qMI) (L : qML) (R : qMR) : Prop := vInv I L R ∧ ((f (I 292 2).toInt (I 1 1).toInt ∧ y = I 1 1) ∨ (¬ (∃ z, f (I 292 2).toInt z) ∧ I 1 1 = I 292 2 ∧ y = -1))
def fFeed (a b : Int) : Prop := a ≤ 1980 ∧ b = a + 20
def fBack (x : Int32) (a b : Int) : Prop := (0 ≤ x.toInt ∧ x.toInt ≤ a) ∧ b = a - x.toInt
section
variable {l : Launch} {G : qG} {I : qMI} {L : qML} {R : qMR}
theorem iC_read (hv : vI I L R) : qCall l G 26 n_X8_read [.ref 0] 336 I L R (fun r t I' L' R' => t = 336 ∧ ∃ y, r = some (.int y) ∧ vMr I' L' R') := by
  obtain ⟨⟨hm | hm, hg⟩, -⟩ := hv
  · exact vcallR (cs_X8_read 0) kR0 ⟨⟨rfl, rfl⟩, trivial⟩ hm hg
  · exact vcallR (cs_X8_read 0) kR1 ⟨⟨rfl, rfl⟩, trivial⟩ hm hg
theorem iM_read (hv : vMr I L R) : qCall l G 26 n_X9_read [.ref 292] 336 I L R vIQ := by
  obtain ⟨hv, h0⟩ := hv
  obtain ⟨A, hA, hm, hg, hk⟩ := vM hv
  refine qCall_mono (yRead (d := 18) (vRR hA hm) (vRi hA hm hg)) ?_
  intro r t I' L' R' hq
  obtain ⟨rfl, rfl, y, rfl, hp⟩ := hq
  refine ⟨rfl, y, rfl, hk _ _ _ (vRead hA hm hp), ?_⟩
  rw [hp.2.2.2.1, hp.2.1 1 (by decide) (Or.inl (by decide))]
  exact h0
theorem iC_feed (hv : vI I L R) (x1 x2 x3 x4 x5 : Int32) : qCall l G 26 n_X8_feed [.ref 0, .int x1, .int x2, .int x3, .int x4, .int x5] 336 I L R (fun r t I' L' R' => t = 336 ∧ ∃ y, r = some (.int y) ∧ vMf fFeed y I' L' R') := by
  obtain ⟨hv, h0⟩ := hv
  obtain ⟨A, hA, hm, hg, hk⟩ := vC hv
  obtain ⟨r1, r2, ⟨s1, s2⟩, -⟩ := zC1 hA hm
  refine qCall_mono (cFeed (d := 24) r1 r2 s1 s2) ?_
  intro r t I' L' R' hq
  obtain ⟨rfl, y, rfl, rfl, rfl, hp, hc⟩ := hq
  have e292 : I' 292 = I 292 := hp.1 292 (by decide) (by decide)
  rcases hc with ⟨a1, a2, a3⟩ | ⟨a1, rfl, a3⟩
  · refine ⟨rfl, y, rfl, hk _ _ _ (vTapeC hA hm hg hp (by omega)), Or.inl ⟨⟨?_, ?_⟩, a3⟩⟩
    · rw [e292, ← h0]; exact a1
    · rw [e292, ← h0]; exact a2
  · refine ⟨rfl, y, rfl, hv, Or.inr ⟨?_, h0, a3⟩⟩
    rintro ⟨z, q, -⟩
    rw [← h0] at q
    omega
theorem iM_feed {y : Int32} (hv : vMf fFeed y I L R) (x1 x2 x3 x4 x5 : Int32) : qCall l G 26 n_X9_feed [.ref 292, .int x1, .int x2, .int x3, .int x4, .int x5] 336 I L R (fun r t I' L' R' => t = 336 ∧ ∃ y2, r = some (.int y2) ∧ y2 = y ∧ vI I' L' R') := by
  obtain ⟨hv, h0⟩ := hv
  obtain ⟨A, hA, hm, hg, hk⟩ := vM hv
  obtain ⟨⟨t1, t2⟩, -⟩ := vRi hA hm hg
  refine qCall_mono (yFeed (d := 24) (vRR hA hm) t1 t2) ?_
  intro r t I' L' R' hq
  obtain ⟨rfl, rfl, y2, rfl, rfl, hp, hc⟩ := hq
  have e1 : I' 1 = I 1 := hp.1 1 (by decide) (by decide)
  rcases hc with ⟨a1, a2, a3⟩ | ⟨a1, rfl, a3⟩
  · rcases h0 with ⟨⟨b1, b2⟩, b3⟩ | ⟨b1, -, -⟩
    · have ee : I' 1 1 = I' 292 2 := i_eq.mpr (by rw [e1]; omega)
      exact ⟨rfl, y2, rfl, by rw [a3, b3, ← ee, e1], hk _ _ _ (vTape hA hm hg hp (by omega)), ee⟩
    · exact absurd ⟨_, a1, rfl⟩ b1
  · rcases h0 with ⟨⟨b1, b2⟩, b3⟩ | ⟨b1, b2, b3⟩
    · omega
    · exact ⟨rfl, y2, rfl, by rw [a3, b3], hv, b2⟩
theorem iC_back (hv : vI I L R) (x1 : Int32) : qCall l G 26 n_X8_back [.ref 0, .int x1] 336 I L R (fun r t I' L' R' => t = 336 ∧ ∃ y, r = some (.int y) ∧ vMf (fBack x1) y I' L' R') := by
  obtain ⟨hv, h0⟩ := hv
  obtain ⟨A, hA, hm, hg, hk⟩ := vC hv
  obtain ⟨r1, r2, ⟨s1, s2⟩, -⟩ := zC1 hA hm
  refine qCall_mono (cBack (d := 24) r1) ?_
  intro r t I' L' R' hq
  obtain ⟨rfl, y, rfl, rfl, rfl, hp, hc⟩ := hq
  have e292 : I' 292 = I 292 := hp.1 292 (by decide) (by decide)
  rcases hc with ⟨a1, a2, a3⟩ | ⟨a1, rfl, a3⟩
  · refine ⟨rfl, y, rfl, hk _ _ _ (vTapeC hA hm hg hp (by omega)), Or.inl ⟨⟨?_, ?_⟩, a3⟩⟩
    · rw [e292, ← h0]; exact a1
    · rw [e292, ← h0]; exact a2
  · refine ⟨rfl, y, rfl, hv, Or.inr ⟨?_, h0, a3⟩⟩
    rintro ⟨z, q, -⟩
    rw [← h0] at q
    exact a1 q
theorem iM_back {y : Int32} (x1 : Int32) (hv : vMf (fBack x1) y I L R) : qCall l G 26 n_X9_back [.ref 292, .int x1] 336 I L R (fun r t I' L' R' => t = 336 ∧ ∃ y2, r = some (.int y2) ∧ y2 = y ∧ vI I' L' R') := by
  obtain ⟨hv, h0⟩ := hv
  obtain ⟨A, hA, hm, hg, hk⟩ := vM hv
  obtain ⟨⟨t1, t2⟩, -⟩ := vRi hA hm hg
  refine qCall_mono (yBack (d := 25) t1 t2) ?_
  intro r t I' L' R' hq
  obtain ⟨rfl, rfl, y2, rfl, rfl, hp, hc⟩ := hq
  have e1 : I' 1 = I 1 := hp.1 1 (by decide) (by decide)
  rcases hc with ⟨a1, a2, a3⟩ | ⟨a1, rfl, a3⟩
  · rcases h0 with ⟨⟨b1, b2⟩, b3⟩ | ⟨b1, -, -⟩
    · have ee : I' 1 1 = I' 292 2 := i_eq.mpr (by rw [e1]; omega)
      exact ⟨rfl, y2, rfl, by rw [a3, b3, ← ee, e1], hk _ _ _ (vTape hA hm hg hp (by omega)), ee⟩
    · exact absurd ⟨_, a1, rfl⟩ b1
  · rcases h0 with ⟨⟨b1, b2⟩, b3⟩ | ⟨b1, b2, b3⟩
    · exact absurd b1 a1
    · exact ⟨rfl, y2, rfl, by rw [a3, b3], hv, b2⟩
theorem iC_place (hv : vI I L R) : qCall l G 26 n_X8_place [.ref 0] 336 I L R vIQ := qCall_mono (hC2_place hv.1) (fun _ _ _ _ _ hq => vI_of hv hq)
theorem iM_place (hv : vI I L R) : qCall l G 26 n_X9_place [.ref 292] 336 I L R vIQ := qCall_mono (hM2_place hv.1) (fun _ _ _ _ _ hq => vI_of hv hq)
theorem iC_thing (hv : vI I L R) (x1 x2 : Int32) : qCall l G 26 n_X8_thing [.ref 0, .int x1, .int x2] 336 I L R vIQ := qCall_mono (hC2_thing hv.1 x1 x2) (fun _ _ _ _ _ hq => vI_of hv hq)
theorem iM_thing (hv : vI I L R) (x1 x2 : Int32) : qCall l G 26 n_X9_thing [.ref 292, .int x1, .int x2] 336 I L R vIQ := qCall_mono (hM2_thing hv.1 x1 x2) (fun _ _ _ _ _ hq => vI_of hv hq)
theorem iC_seat (hv : vI I L R) (x1 x2 : Int32) : qCall l G 26 n_X8_seat [.ref 0, .int x1, .int x2] 336 I L R vIQ := qCall_mono (hC2_seat hv.1 x1 x2) (fun _ _ _ _ _ hq => vI_of hv hq)
theorem iM_seat (hv : vI I L R) (x1 x2 : Int32) : qCall l G 26 n_X9_seat [.ref 292, .int x1, .int x2] 336 I L R vIQ := qCall_mono (hM2_seat hv.1 x1 x2) (fun _ _ _ _ _ hq => vI_of hv hq)
theorem iC_loan (hv : vI I L R) (x1 x2 x3 : Int32) : qCall l G 26 n_X8_loan [.ref 0, .int x1, .int x2, .int x3] 336 I L R vIQ := qCall_mono (hC2_loan hv.1 x1 x2 x3) (fun _ _ _ _ _ hq => vI_of hv hq)
theorem iM_loan (hv : vI I L R) (x1 x2 x3 : Int32) : qCall l G 26 n_X9_loan [.ref 292, .int x1, .int x2, .int x3] 336 I L R vIQ := qCall_mono (hM2_loan hv.1 x1 x2 x3) (fun _ _ _ _ _ hq => vI_of hv hq)
theorem iC_tells (hv : vI I L R) (x1 x2 x3 x4 : Int32) : qCall l G 26 n_X8_tells [.ref 0, .int x1, .int x2, .int x3, .int x4] 336 I L R vIQ := qCall_mono (hC2_tells hv.1 x1 x2 x3 x4) (fun _ _ _ _ _ hq => vI_of hv hq)
theorem iM_tells (hv : vI I L R) (x1 x2 x3 x4 : Int32) : qCall l G 26 n_X9_tells [.ref 292, .int x1, .int x2, .int x3, .int x4] 336 I L R vIQ := qCall_mono (hM2_tells hv.1 x1 x2 x3 x4) (fun _ _ _ _ _ hq => vI_of hv hq)
theorem iC_lend (hv : vI I L R) (x1 x2 x3 : Int32) : qCall l G 26 n_X8_lend [.ref 0, .int x1, .int x2, .int x3] 336 I L R vIQ := qCall_mono (hC2_lend hv.1 x1 x2 x3) (fun _ _ _ _ _ hq => vI_of hv hq)
theorem iM_lend (hv : vI I L R) (x1 x2 x3 : Int32) : qCall l G 26 n_X9_lend [.ref 292, .int x1, .int x2, .int x3] 336 I L R vIQ := qCall_mono (hM2_lend hv.1 x1 x2 x3) (fun _ _ _ _ _ hq => vI_of hv hq)
theorem iC_call (hv : vI I L R) (x1 x2 : Int32) : qCall l G 26 n_X8_call [.ref 0, .int x1, .int x2] 336 I L R vIQ := qCall_mono (hC2_call hv.1 x1 x2) (fun _ _ _ _ _ hq => vI_of hv hq)
theorem iM_call (hv : vI I L R) (x1 x2 : Int32) : qCall l G 26 n_X9_call [.ref 292, .int x1, .int x2] 336 I L R vIQ := qCall_mono (hM2_call hv.1 x1 x2) (fun _ _ _ _ _ hq => vI_of hv hq)
theorem iC_move (hv : vI I L R) (x1 x2 : Int32) : qCall l G 26 n_X8_move [.ref 0, .int x1, .int x2] 336 I L R vIQ := qCall_mono (hC2_move hv.1 x1 x2) (fun _ _ _ _ _ hq => vI_of hv hq)
theorem iM_move (hv : vI I L R) (x1 x2 : Int32) : qCall l G 26 n_X9_move [.ref 292, .int x1, .int x2] 336 I L R vIQ := qCall_mono (hM2_move hv.1 x1 x2) (fun _ _ _ _ _ hq => vI_of hv hq)
theorem iC_hours (hv : vI I L R) (x1 : Int32) : qCall l G 26 n_X8_hours [.ref 0, .int x1] 336 I L R vIQ := qCall_mono (hC2_hours hv.1 x1) (fun _ _ _ _ _ hq => vI_of hv hq)
theorem iM_hours (hv : vI I L R) (x1 : Int32) : qCall l G 26 n_X9_hours [.ref 292, .int x1] 336 I L R vIQ := qCall_mono (hM2_hours hv.1 x1) (fun _ _ _ _ _ hq => vI_of hv hq)
theorem iC_undo (hv : vI I L R) : qCall l G 26 n_X8_undo [.ref 0] 336 I L R vIQ := qCall_mono (hC2_undo hv.1) (fun _ _ _ _ _ hq => vI_of hv hq)
theorem iM_undo (hv : vI I L R) : qCall l G 26 n_X9_undo [.ref 292] 336 I L R vIQ := qCall_mono (hM2_undo hv.1) (fun _ _ _ _ _ hq => vI_of hv hq)
theorem iC_sight (hv : vI I L R) (x1 x2 x3 : Int32) : qCall l G 26 n_X8_sight [.ref 0, .int x1, .int x2, .int x3] 336 I L R vIQ := qCall_mono (hC2_sight hv.1 x1 x2 x3) (fun _ _ _ _ _ hq => vI_of hv hq)
theorem iM_sight (hv : vI I L R) (x1 x2 x3 : Int32) : qCall l G 26 n_X9_sight [.ref 292, .int x1, .int x2, .int x3] 336 I L R vIQ := qCall_mono (hM2_sight hv.1 x1 x2 x3) (fun _ _ _ _ _ hq => vI_of hv hq)
theorem iC_clash (hv : vI I L R) (x1 : Int32) : qCall l G 26 n_X8_clash [.ref 0, .int x1] 336 I L R vIQ := qCall_mono (hC2_clash hv.1 x1) (fun _ _ _ _ _ hq => vI_of hv hq)
theorem iM_clash (hv : vI I L R) (x1 : Int32) : qCall l G 26 n_X9_clash [.ref 292, .int x1] 336 I L R vIQ := qCall_mono (hM2_clash hv.1 x1) (fun _ _ _ _ _ hq => vI_of hv hq)
theorem iC_longFrom (hv : vI I L R) (x1 x2 x3 : Int32) : qCall l G 26 n_X8_longFrom [.ref 0, .int x1, .int x2, .int x3] 336 I L R vIQ := qCall_mono (hC2_longFrom hv.1 x1 x2 x3) (fun _ _ _ _ _ hq => vI_of hv hq)
theorem iM_longFrom (hv : vI I L R) (x1 x2 x3 : Int32) : qCall l G 26 n_X9_longFrom [.ref 292, .int x1, .int x2, .int x3] 336 I L R vIQ := qCall_mono (hM2_longFrom hv.1 x1 x2 x3) (fun _ _ _ _ _ hq => vI_of hv hq)
theorem iC_best (hv : vI I L R) (x1 x2 x3 : Int32) : qCall l G 26 n_X8_best [.ref 0, .int x1, .int x2, .int x3] 336 I L R vIQ := qCall_mono (hC2_best hv.1 x1 x2 x3) (fun _ _ _ _ _ hq => vI_of hv hq)
theorem iM_best (hv : vI I L R) (x1 x2 x3 : Int32) : qCall l G 26 n_X9_best [.ref 292, .int x1, .int x2, .int x3] 336 I L R vIQ := qCall_mono (hM2_best hv.1 x1 x2 x3) (fun _ _ _ _ _ hq => vI_of hv hq)
theorem iC_dawns (hv : vI I L R) (x1 x2 : Int32) : qCall l G 26 n_X8_dawns [.ref 0, .int x1, .int x2] 336 I L R vIQ := qCall_mono (hC2_dawns hv.1 x1 x2) (fun _ _ _ _ _ hq => vI_of hv hq)
theorem iM_dawns (hv : vI I L R) (x1 x2 : Int32) : qCall l G 26 n_X9_dawns [.ref 292, .int x1, .int x2] 336 I L R vIQ := qCall_mono (hM2_dawns hv.1 x1 x2) (fun _ _ _ _ _ hq => vI_of hv hq)
theorem iC_near (hv : vI I L R) (x1 x2 : Int32) : qCall l G 26 n_X8_near [.ref 0, .int x1, .int x2] 336 I L R vIQ := qCall_mono (hC2_near hv.1 x1 x2) (fun _ _ _ _ _ hq => vI_of hv hq)
theorem iM_near (hv : vI I L R) (x1 x2 : Int32) : qCall l G 26 n_X9_near [.ref 292, .int x1, .int x2] 336 I L R vIQ := qCall_mono (hM2_near hv.1 x1 x2) (fun _ _ _ _ _ hq => vI_of hv hq)
theorem iC_crowd (hv : vI I L R) (x1 : Int32) : qCall l G 26 n_X8_crowd [.ref 0, .int x1] 336 I L R vIQ := qCall_mono (hC2_crowd hv.1 x1) (fun _ _ _ _ _ hq => vI_of hv hq)
theorem iM_crowd (hv : vI I L R) (x1 : Int32) : qCall l G 26 n_X9_crowd [.ref 292, .int x1] 336 I L R vIQ := qCall_mono (hM2_crowd hv.1 x1) (fun _ _ _ _ _ hq => vI_of hv hq)
theorem iC_rich (hv : vI I L R) (x1 x2 : Int32) : qCall l G 26 n_X8_rich [.ref 0, .int x1, .int x2] 336 I L R vIQ := qCall_mono (hC2_rich hv.1 x1 x2) (fun _ _ _ _ _ hq => vI_of hv hq)
theorem iM_rich (hv : vI I L R) (x1 x2 : Int32) : qCall l G 26 n_X9_rich [.ref 292, .int x1, .int x2] 336 I L R vIQ := qCall_mono (hM2_rich hv.1 x1 x2) (fun _ _ _ _ _ hq => vI_of hv hq)
theorem iC_umbrellas (hv : vI I L R) (x1 x2 : Int32) : qCall l G 26 n_X8_umbrellas [.ref 0, .int x1, .int x2] 336 I L R vIQ := qCall_mono (hC2_umbrellas hv.1 x1 x2) (fun _ _ _ _ _ hq => vI_of hv hq)
theorem iM_umbrellas (hv : vI I L R) (x1 x2 : Int32) : qCall l G 26 n_X9_umbrellas [.ref 292, .int x1, .int x2] 336 I L R vIQ := qCall_mono (hM2_umbrellas hv.1 x1 x2) (fun _ _ _ _ _ hq => vI_of hv hq)
theorem iC_worth (hv : vI I L R) (x1 x2 x3 x4 : Int32) : qCall l G 26 n_X8_worth [.ref 0, .int x1, .int x2, .int x3, .int x4] 336 I L R vIQ := qCall_mono (hC2_worth hv.1 x1 x2 x3 x4) (fun _ _ _ _ _ hq => vI_of hv hq)
theorem iM_worth (hv : vI I L R) (x1 x2 x3 x4 : Int32) : qCall l G 26 n_X9_worth [.ref 292, .int x1, .int x2, .int x3, .int x4] 336 I L R vIQ := qCall_mono (hM2_worth hv.1 x1 x2 x3 x4) (fun _ _ _ _ _ hq => vI_of hv hq)
theorem iC_book (hv : vI I L R) (x1 x2 : Int32) : qCall l G 26 n_X8_book [.ref 0, .int x1, .int x2] 336 I L R vIQ := qCall_mono (hC2_book hv.1 x1 x2) (fun _ _ _ _ _ hq => vI_of hv hq)
theorem iM_book (hv : vI I L R) (x1 x2 : Int32) : qCall l G 26 n_X9_book [.ref 292, .int x1, .int x2] 336 I L R vIQ := qCall_mono (hM2_book hv.1 x1 x2) (fun _ _ _ _ _ hq => vI_of hv hq)
theorem iC_hidden (hv : vI I L R) (x1 x2 x3 : Int32) : qCall l G 26 n_X8_hidden [.ref 0, .int x1, .int x2, .int x3] 336 I L R vIQ := qCall_mono (hC2_hidden hv.1 x1 x2 x3) (fun _ _ _ _ _ hq => vI_of hv hq)
theorem iM_hidden (hv : vI I L R) (x1 x2 x3 : Int32) : qCall l G 26 n_X9_hidden [.ref 292, .int x1, .int x2, .int x3] 336 I L R vIQ := qCall_mono (hM2_hidden hv.1 x1 x2 x3) (fun _ _ _ _ _ hq => vI_of hv hq)
theorem iC_cool (hv : vI I L R) : qCall l G 26 n_X8_cool [.ref 0] 336 I L R vIQ := qCall_mono (hC2_cool hv.1) (fun _ _ _ _ _ hq => vI_of hv hq)
theorem iM_cool (hv : vI I L R) : qCall l G 26 n_X9_cool [.ref 292] 336 I L R vIQ := qCall_mono (hM2_cool hv.1) (fun _ _ _ _ _ hq => vI_of hv hq)
theorem iC_heatIn (hv : vI I L R) (x1 : Int32) : qCall l G 26 n_X8_heatIn [.ref 0, .int x1] 336 I L R vIQ := qCall_mono (hC2_heatIn hv.1 x1) (fun _ _ _ _ _ hq => vI_of hv hq)
theorem iM_heatIn (hv : vI I L R) (x1 : Int32) : qCall l G 26 n_X9_heatIn [.ref 292, .int x1] 336 I L R vIQ := qCall_mono (hM2_heatIn hv.1 x1) (fun _ _ _ _ _ hq => vI_of hv hq)
theorem iC_lentIn (hv : vI I L R) (x1 x2 x3 : Int32) : qCall l G 26 n_X8_lentIn [.ref 0, .int x1, .int x2, .int x3] 336 I L R vIQ := qCall_mono (hC2_lentIn hv.1 x1 x2 x3) (fun _ _ _ _ _ hq => vI_of hv hq)
theorem iM_lentIn (hv : vI I L R) (x1 x2 x3 : Int32) : qCall l G 26 n_X9_lentIn [.ref 292, .int x1, .int x2, .int x3] 336 I L R vIQ := qCall_mono (hM2_lentIn hv.1 x1 x2 x3) (fun _ _ _ _ _ hq => vI_of hv hq)
theorem iC_year (hv : vI I L R) (x1 x2 x3 x4 : Int32) : qCall l G 26 n_X8_year [.ref 0, .int x1, .int x2, .int x3, .int x4] 336 I L R vIQ := qCall_mono (hC2_year hv.1 x1 x2 x3 x4) (fun _ _ _ _ _ hq => vI_of hv hq)
theorem iM_year (hv : vI I L R) (x1 x2 x3 x4 : Int32) : qCall l G 26 n_X9_year [.ref 292, .int x1, .int x2, .int x3, .int x4] 336 I L R vIQ := qCall_mono (hM2_year hv.1 x1 x2 x3 x4) (fun _ _ _ _ _ hq => vI_of hv hq)
theorem iC_tell (hv : vI I L R) (x1 x2 x3 : Int32) : qCall l G 26 n_X8_tell [.ref 0, .int x1, .int x2, .int x3] 336 I L R vIQ := qCall_mono (hC2_tell hv.1 x1 x2 x3) (fun _ _ _ _ _ hq => vI_of hv hq)
theorem iM_tell (hv : vI I L R) (x1 x2 x3 : Int32) : qCall l G 26 n_X9_tell [.ref 292, .int x1, .int x2, .int x3] 336 I L R vIQ := qCall_mono (hM2_tell hv.1 x1 x2 x3) (fun _ _ _ _ _ hq => vI_of hv hq)
theorem iC_forget (hv : vI I L R) : qCall l G 26 n_X8_forget [.ref 0] 336 I L R vIQ := qCall_mono (hC2_forget hv.1) (fun _ _ _ _ _ hq => vI_of hv hq)
theorem iM_forget (hv : vI I L R) : qCall l G 26 n_X9_forget [.ref 292] 336 I L R vIQ := qCall_mono (hM2_forget hv.1) (fun _ _ _ _ _ hq => vI_of hv hq)
theorem iC_stands (hv : vI I L R) (x1 : Int32) : qCall l G 26 n_X8_stands [.ref 0, .int x1] 336 I L R vIQ := qCall_mono (hC2_stands hv.1 x1) (fun _ _ _ _ _ hq => vI_of hv hq)
theorem iM_stands (hv : vI I L R) (x1 : Int32) : qCall l G 26 n_X9_stands [.ref 292, .int x1] 336 I L R vIQ := qCall_mono (hM2_stands hv.1 x1) (fun _ _ _ _ _ hq => vI_of hv hq)
theorem iC_sure (hv : vI I L R) (x1 x2 : Int32) : qCall l G 26 n_X8_sure [.ref 0, .int x1, .int x2] 336 I L R vIQ := qCall_mono (hC2_sure hv.1 x1 x2) (fun _ _ _ _ _ hq => vI_of hv hq)
theorem iM_sure (hv : vI I L R) (x1 x2 : Int32) : qCall l G 26 n_X9_sure [.ref 292, .int x1, .int x2] 336 I L R vIQ := qCall_mono (hM2_sure hv.1 x1 x2) (fun _ _ _ _ _ hq => vI_of hv hq)
theorem iC_look (hv : vI I L R) (x1 x2 : Int32) : qCall l G 26 n_X8_look [.ref 0, .int x1, .int x2] 336 I L R vIQ := qCall_mono (hC2_look hv.1 x1 x2) (fun _ _ _ _ _ hq => vI_of hv hq)
theorem iM_look (hv : vI I L R) (x1 x2 : Int32) : qCall l G 26 n_X9_look [.ref 292, .int x1, .int x2] 336 I L R vIQ := qCall_mono (hM2_look hv.1 x1 x2) (fun _ _ _ _ _ hq => vI_of hv hq)
theorem iC_hold (hv : vI I L R) (x1 : Int32) : qCall l G 26 n_X8_hold [.ref 0, .int x1] 336 I L R vIQ := qCall_mono (hC2_hold hv.1 x1) (fun _ _ _ _ _ hq => vI_of hv ⟨hq.1, hq.2.1.elim (fun y h => ⟨y, h.1⟩), hq.2.2⟩)
theorem iM_hold (hv : vI I L R) (x1 : Int32) : qCall l G 26 n_X9_hold [.ref 292, .int x1] 336 I L R vIQ := qCall_mono (hM2_hold hv.1 x1) (fun _ _ _ _ _ hq => vI_of hv ⟨hq.1, hq.2.1.elim (fun y h => ⟨y, h.1⟩), hq.2.2⟩)
theorem iC_restore (hv : vI I L R) (x1 : Int32) : qCall l G 26 n_X8_restore [.ref 0, .int x1] 336 I L R vIQ := qCall_mono (hC2_restore hv.1 x1) (fun _ _ _ _ _ hq => vI_of hv hq)
theorem iM_restore (hv : vI I L R) (x1 : Int32) : qCall l G 26 n_X9_restore [.ref 292, .int x1] 336 I L R vIQ := qCall_mono (hM2_restore hv.1 x1) (fun _ _ _ _ _ hq => vI_of hv hq)
theorem iC_count (hv : vI I L R) (x1 : Int32) : qCall l G 26 n_X8_count [.ref 0, .int x1] 336 I L R vIQ := qCall_mono (hC2_count hv.1 x1) (fun _ _ _ _ _ hq => vI_of hv hq)
theorem iM_count (hv : vI I L R) (x1 : Int32) : qCall l G 26 n_X9_count [.ref 292, .int x1] 336 I L R vIQ := qCall_mono (hM2_count hv.1 x1) (fun _ _ _ _ _ hq => vI_of hv hq)
end
