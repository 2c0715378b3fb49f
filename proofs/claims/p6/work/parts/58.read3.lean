section
variable {l : Launch} {G : qG} {d : Nat} {I : qMI} {L : qML} {R : qMR}
/-- behind the cutting -/
theorem yReadMid (hR : wkR R) (h : yRi I) {C : qMI} {L : qML} {a : Int32} (oC : ∀ k, k ≠ 292 → k ≠ 294 → k ≠ 295 → k ≠ 296 → k ≠ 297 → C k = I k) (jC : ∀ j, j ≠ 2 → j ≠ 4 → j ≠ 10 → C 292 j = I 292 j) (c2 : C 292 2 = 0) (c4 : C 292 4 = I 292 2) (c10 : 0 ≤ (C 292 10).toInt ∧ (C 292 10).toInt ≤ 401) (ck : ∀ i, i < 403 → 0 ≤ (C 295 i).toInt ∧ (C 295 i).toInt ≤ 42) : wkB l G (d + 7 + 1) n_X9_read (wkPI R (fun _ I' _ => yRp I I')) 45 [.ref 292, .int a] [] C L R := by
  obtain ⟨h1, -, h3, v, hv, h4, h5⟩ := h
  have c18 : C 292 18 = I 292 18 := jC 18 (by decide) (by decide) (by decide)
  obtain ⟨s, hs, hsv⟩ : ∃ s : Nat, (s = 0 ∨ s = 1) ∧ s + v = 1 := ⟨1 - v, by omega, by omega⟩
  have e18 : (qUp (qUp (qUp (qUp C 292 11 0) 292 12 0) 292 13 0) 292 15 0) 292 18 = I 292 18 := by rw [qUp_ne (by omega), qUp_ne (by omega), qUp_ne (by omega), qUp_ne (by omega)]; exact c18
  have e1 : ((1 : Int32) - I 292 18).toInt = s := by
    rw [i_sub (by rw [show (1 : Int32).toInt = 1 from rfl]; omega) (by rw [show (1 : Int32).toInt = 1 from rfl]; omega), show (1 : Int32).toInt = 1 from rfl]; omega
  -- what stands before plain
  have key : ∀ D : qMI, (∀ k, k ≠ 292 → D k = C k) → (∀ j, j ≠ 11 → j ≠ 12 → j ≠ 13 → j ≠ 15 → j ≠ 19 → j ≠ 20 → D 292 j = C 292 j) → D 292 11 = 0 → D 292 12 = 0 → D 292 13 = 0 → D 292 20 = 0 → (D 292 19).toInt = s → ∀ E : qMI, ∀ L1 : qML, yPl s D E → wkB l G (d + 7 + 1) n_X9_read (wkPI R (fun _ I' _ => yRp I I')) 88 [.ref 292, .int a] [] E L1 R := by
    intro D o f f11 f12 f13 f20 f19 E L1 p
    obtain ⟨p1, p2, p3, p4, p5⟩ := p
    have e19 : E 292 19 = D 292 19 := p2 19
    have m130 : ((130 : Int32) * E 292 19).toInt = 130 * (s : Int) := by rw [i_mul (by rw [e19, f19, show (130 : Int32).toInt = 130 from rfl]; omega) (by rw [e19, f19, show (130 : Int32).toInt = 130 from rfl]; omega), e19, f19]; rfl
    have m420 : ((420 : Int32) * E 292 19).toInt = 420 * (s : Int) := by rw [i_mul (by rw [e19, f19, show (420 : Int32).toInt = 420 from rfl]; omega) (by rw [e19, f19, show (420 : Int32).toInt = 420 from rfl]; omega), e19, f19]; rfl
    refine w_X9_read_88 ?_
    rw [show (qUp E 292 34 (130 * (E 292 19))) 292 19 = E 292 19 from qUp_ne (by omega)]
    generalize hF : qUp (qUp E 292 34 (130 * (E 292 19))) 292 40 (420 * (E 292 19)) = F
    have oF : ∀ k, k ≠ 292 → F k = E k := fun k b => by rw [← hF]; exact funext fun i => by rw [qUp_ne (fun q => b q.1), qUp_ne (fun q => b q.1)]
    have jF : ∀ j, j ≠ 34 → j ≠ 40 → F 292 j = D 292 j := fun j b1 b2 => by rw [← hF, qUp_ne (fun q => b2 q.2), qUp_ne (fun q => b1 q.2)]; exact p2 j
    have jFC : ∀ j, j ≠ 34 → j ≠ 40 → j ≠ 11 → j ≠ 12 → j ≠ 13 → j ≠ 15 → j ≠ 19 → j ≠ 20 → F 292 j = C 292 j := fun j b1 b2 b3 b4 b5 b6 b7 b8 => (jF j b1 b2).trans (f j b3 b4 b5 b6 b7 b8)
    have F34 : (F 292 34).toInt = (130 * s : Nat) := by rw [← hF, qUp_ne (by omega), qUp_at, if_pos ⟨rfl, rfl⟩, m130]; omega
    have F40 : (F 292 40).toInt = (420 * s : Nat) := by rw [← hF, qUp_at, if_pos ⟨rfl, rfl⟩, m420]; omega
    have hu : ∀ x ∈ zUN, D x = I x := fun x hx => by
      simp only [zUN, List.mem_cons, List.not_mem_nil, or_false] at hx
      exact (o x (by omega)).trans (oC x (by omega) (by omega) (by omega) (by omega) (by omega))
    have huF : ∀ x ∈ zUN, F x = E x := fun x hx => by
      simp only [zUN, List.mem_cons, List.not_mem_nil, or_false] at hx
      exact oF x (by omega)
    have gE := yF_side (s := s) (s' := v) (by omega) p1 ⟨zside_congr hu h5.1, zreg_congr hu h5.2⟩
    have k301 : F 301 v = I 301 v := by rw [oF 301 (by decide), (p1.2.1 v (by omega)).1, o 301 (by decide), oC 301 (by decide) (by decide) (by decide) (by decide) (by decide)]
    have k304 : F 304 v = I 304 v := by rw [oF 304 (by decide), (p1.2.1 v (by omega)).2, o 304 (by decide), oC 304 (by decide) (by decide) (by decide) (by decide) (by decide)]
    have k295 : F 295 = C 295 := by rw [oF 295 (by decide), p1.1 295 (by decide) (by decide), o 295 (by decide)]
    have F2 : F 292 2 = C 292 2 := jFC 2 (by decide) (by decide) (by decide) (by decide) (by decide) (by decide) (by decide) (by decide)
    have F4 : F 292 4 = C 292 4 := jFC 4 (by decide) (by decide) (by decide) (by decide) (by decide) (by decide) (by decide) (by decide)
    have F10 : F 292 10 = C 292 10 := jFC 10 (by decide) (by decide) (by decide) (by decide) (by decide) (by decide) (by decide) (by decide)
    have F18 : F 292 18 = C 292 18 := jFC 18 (by decide) (by decide) (by decide) (by decide) (by decide) (by decide) (by decide) (by decide)
    refine yReadLoop (s := s) (v := v) (J := F) hR ⟨⟨hs, hv, by omega⟩, fun k b1 b2 => ?_, fun j b => ?_, F2.trans c2, by rw [F4, c4]; exact h1, by rw [F10]; exact c10, by rw [k295]; exact ck, ⟨by rw [jF 19 (by decide) (by decide)]; exact f19, by rw [F18, c18]; exact h4⟩, by rw [k301, k304]; exact h3 v (by omega), zside_congr huF gE.1, zreg_congr huF gE.2⟩ _ F L1 0 (130 * s) 0 0 rfl (yPS_go (yF_rf s F) (by rw [jF 11 (by decide) (by decide)]; exact f11) (by rw [jF 12 (by decide) (by decide)]; exact f12) (by rw [jF 13 (by decide) (by decide)]; exact f13) (by rw [jF 20 (by decide) (by decide)]; exact f20) F34 F40 (by rw [oF 301 (by decide)]; exact p3) (by rw [oF 304 (by decide)]; exact p4) (fun k hk => by rw [oF 311 (by decide), oF 312 (by decide)]; exact p5 k hk))
    · exact (oF k b1).trans ((p1.1 k b1 (by omega)).trans ((o k b1).trans (oC k b1 (by omega) (by omega) (by omega) (by omega))))
    · unfold yRj at b
      exact (jFC j (by omega) (by omega) (by omega) (by omega) (by omega) (by omega) (by omega) (by omega)).trans (jC j (by omega) (by omega) (by omega))
  refine w_X9_read_45 (yPlain (d := d + 6) (s := s) hR hs (by rw [qUp_ne (by omega), qUp_at, if_pos ⟨rfl, rfl⟩, e18]; exact e1)) (fun E L1 p => key _ (fun k b => ?_) (fun j b1 b2 b3 b4 b5 b6 => ?_) ?_ ?_ ?_ ?_ ?_ E L1 p.2)
  · exact funext fun i => by rw [qUp_ne (fun q => b q.1), qUp_ne (fun q => b q.1), qUp_ne (fun q => b q.1), qUp_ne (fun q => b q.1), qUp_ne (fun q => b q.1), qUp_ne (fun q => b q.1)]
  · rw [qUp_ne (fun q => b6 q.2), qUp_ne (fun q => b5 q.2), qUp_ne (fun q => b4 q.2), qUp_ne (fun q => b3 q.2), qUp_ne (fun q => b2 q.2), qUp_ne (fun q => b1 q.2)]
  · rw [qUp_ne (by omega), qUp_ne (by omega), qUp_ne (by omega), qUp_ne (by omega), qUp_ne (by omega), qUp_at, if_pos ⟨rfl, rfl⟩]
  · rw [qUp_ne (by omega), qUp_ne (by omega), qUp_ne (by omega), qUp_ne (by omega), qUp_at, if_pos ⟨rfl, rfl⟩]
  · rw [qUp_ne (by omega), qUp_ne (by omega), qUp_ne (by omega), qUp_at, if_pos ⟨rfl, rfl⟩]
  · rw [qUp_at, if_pos ⟨rfl, rfl⟩]
  · rw [qUp_ne (by omega), qUp_at, if_pos ⟨rfl, rfl⟩, e18]; exact e1
theorem yRead (hR : wkR R) (h : yRi I) : wkI l G (d + 8) n_X9_read [.ref 292] I L R (fun _ I' _ => yRp I I') := by
  obtain ⟨h1, h2, -⟩ := id h
  have loop : ∀ (m : Nat) (J : qMI) (n : Int32), ((I 292 2).toInt - n.toInt).toNat = m → 0 ≤ n.toInt → (∀ k, k ≠ 294 → J k = (qUp I 292 4 (I 292 2)) k) → wkB l G (d + 7 + 1) n_X9_read (wkPI R (fun _ I' _ => yRp I I')) 10 [.ref 292, .int n] [] J L R := by
    intro m
    induction m using Nat.strongRecOn with
    | ind m ih =>
      intro J n hm n0 o
      have o292 : J 292 = (qUp I 292 4 (I 292 2)) 292 := o 292 (by decide)
      have j4 : J 292 4 = I 292 2 := by rw [o292, qUp_at, if_pos ⟨rfl, rfl⟩]
      have oJ : ∀ k, k ≠ 292 → k ≠ 294 → J k = I k := fun k b1 b2 => by rw [o k b2]; exact funext fun i => qUp_ne (fun q => b1 q.1)
      refine w_X9_read_10 (fun _ => ?_) (fun q => ?_)
      · refine w_X9_read_36 (yCut (d := d + 4) hR (by rw [qUp_ne (by omega), j4]; exact h1) (fun i hi => by rw [qUp_ne (by omega), oJ 295 (by decide) (by decide)]; exact h2 i hi)) (fun C L1 hq => ?_)
        obtain ⟨⟨q1, q2, q3⟩, q4⟩ := hq
        refine yReadMid (d := d) hR h (fun k b1 b2 b3 b4 b5 => ?_) (fun j b1 b2 b3 => ?_) ?_ ?_ q4 q3
        · rw [q1 k b1 b3 b4 b5, ← oJ k b1 b2]
          exact funext fun i => qUp_ne (fun q => b1 q.1)
        · rw [q2 j b3, qUp_ne (fun q => b1 q.2), o292, qUp_ne (fun q => b2 q.2)]
        · rw [q2 2 (by decide), qUp_at, if_pos ⟨rfl, rfl⟩]
        · rw [q2 4 (by decide), qUp_ne (by omega)]; exact j4
      · have lt : n.toInt < (I 292 2).toInt := by
          have : ¬ _ := fun z => q (i_le.mpr z)
          rw [j4] at this
          omega
        have vn : vp_in n 2000 := vin n0 (by omega)
        have sn : (n + 1).toInt = n.toInt + 1 := i_s (by omega)
        exact w_X9_read_18 hR vn vn (ih _ (by omega) _ (n + 1) rfl (by omega) (fun k b => by rw [← o k b]; exact funext fun i => qUp_ne (fun q => b q.1)))
  exact wkC_of 1 (by decide) (Nat.le_of_ble_eq_true rfl) (w_X9_read_0 (loop _ _ 0 rfl (by decide) (fun _ _ => rfl)))
end
