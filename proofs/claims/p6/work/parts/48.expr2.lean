/-! ===== the reference's expressions: the loop ===== -/
def yPush (w : Int32) (I : qMI) : qMI := qUp (qUp I 320 (I 292 44).toNatClampNeg w) 292 44 (I 292 44 + 1)
theorem yPush_f {w : Int32} {I : qMI} {j : Nat} (h : j ≠ 44) : yPush w I 292 j = I 292 j := by unfold yPush; rw [qUp_ne (fun q => h q.2), qUp_ne (fun q => by omega)]
theorem yPush_44 {w : Int32} {I : qMI} : yPush w I 292 44 = I 292 44 + 1 := by unfold yPush; rw [qUp_at, if_pos ⟨rfl, rfl⟩]
theorem yPush_o {w : Int32} {I : qMI} {k : Nat} (h1 : k ≠ 292) (h2 : k ≠ 320) : yPush w I k = I k := funext fun i => by unfold yPush; rw [qUp_ne (fun q => h1 q.1), qUp_ne (fun q => h2 q.1)]
theorem yPush_w {w : Int32} {I : qMI} {i : Nat} : yPush w I 320 i = if i = (I 292 44).toNatClampNeg then w else I 320 i := by
  unfold yPush
  rw [qUp_ne (fun q => by omega), qUp_at]
  simp
theorem yPush_eq {w : Int32} {I : qMI} : qUp (qUp I 320 (I 292 44).toNatClampNeg w) 292 44 ((qUp I 320 (I 292 44).toNatClampNeg w) 292 44 + 1) = yPush w I := by
  rw [qUp_ne (I := I) (by omega)]
  rfl
theorem yE_push {sb c0 : Nat} {w : Int32} {I : qMI} : yE sb c0 I (yPush w I) := yE_tr yE_w (yE_f (j := 44) (by omega))
section
variable {l : Launch} {G : qG} {d : Nat} {I0 : qMI} {L : qML} {R : qMR} {sb c0 base : Nat}
theorem yW_push {w : Int32} {I : qMI} {ws : List Int32} (h : yW (I 320) ws) (h4 : (I 292 44).toInt = ws.length) : yW (yPush w I 320) (w :: ws) := by
  have e : (I 292 44).toNatClampNeg = ws.length := by rw [tcn, h4]; rfl
  refine ⟨by rw [yPush_w, if_pos e.symm], yW_congr (fun i hi => ?_) h⟩
  rw [yPush_w, if_neg (by omega)]
/-- one more is opened -/
theorem yX_open {I I3 : qMI} {ws : List Int32} {n : Nat} (h : yX sb c0 base I0 I ws n 0) (hb : base + yOpn ws ≤ 6) (hb0 : I 292 13 = 0 → base + yOpn ws ≤ 5) (g : yN (qUp I 292 12 (I 292 12 + 1)) I3) : yX sb c0 base I0 (yPush 6 I3) (6 :: ws) n 0 := by
  have hlen := yX_len h
  obtain ⟨h1, h2, ⟨h3, h4, h5⟩, ⟨h6, h7, h8⟩, ⟨h9, h10, h11⟩, h12, h13, h14⟩ := h
  obtain ⟨g1, g2⟩ := g
  have o : ∀ k, k ≠ 292 → I3 k = I k := fun k a => (g1.1.1 k a).trans (funext fun i => qUp_ne (fun q => a q.1))
  have f : ∀ j, j ≠ 11 → j ≠ 12 → j ≠ 13 → j ≠ 14 → j ≠ 15 → j ≠ 16 → I3 292 j = I 292 j := fun j a b c d e f => (g1.1.2 j a c d e f).trans (qUp_ne (fun q => b q.2))
  have f12 : I3 292 12 = I 292 12 + 1 := (g1.1.2 12 (by decide) (by decide) (by decide) (by decide) (by decide)).trans (by rw [qUp_at, if_pos ⟨rfl, rfl⟩])
  have e13 : (qUp I 292 12 (I 292 12 + 1)) 292 13 = I 292 13 := qUp_ne (by omega)
  have e11 : (qUp I 292 12 (I 292 12 + 1)) 292 11 = I 292 11 := qUp_ne (by omega)
  have f0 : I3 292 13 = 0 → I 292 13 = 0 := fun q => by rw [← e13]; exact yS_f0 g1 q
  have t3 := g1.2.2.1
  rw [e11] at t3
  have f44 := f 44 (by decide) (by decide) (by decide) (by decide) (by decide) (by decide)
  have f40 := f 40 (by decide) (by decide) (by decide) (by decide) (by decide) (by decide)
  have p13 : yPush 6 I3 292 13 = I3 292 13 := yPush_f (by decide)
  have p11 : yPush 6 I3 292 11 = I3 292 11 := yPush_f (by decide)
  refine ⟨yE_tr h1 (yE_tr (yE_f (j := 12) (by omega)) (yE_tr (yE_t g1.1) yE_push)), ?_, ⟨?_, ?_, ⟨Or.inl rfl, h5⟩⟩, ⟨?_, ?_, fun q => ?_⟩, ⟨?_, fun q => ?_, ?_⟩, fun q => ?_, ?_, ?_⟩
  · unfold yOk; rw [p11, p13]; exact g1.2.1
  · exact yW_push (by rw [o 320 (by decide)]; exact h3) (by rw [f44]; exact h4)
  · rw [yPush_44, f44, i_s (by omega), h4, List.length_cons]; omega
  · rw [yPush_f (by decide), f12, i_s (by omega), h6, yOpn_6]; omega
  · rw [yOpn_6]; omega
  · rw [yOpn_6]
    have := hb0 (f0 (by rw [← p13]; exact q))
    omega
  · rw [yPush_f (by decide), f40]; exact h9
  · rw [yOps_6, p11]
    have := h10 (f0 (by rw [← p13]; exact q))
    omega
  · rw [yOps_6]; exact h11
  · rw [yPush_o (by decide) (by decide), yPush_o (by decide) (by decide), o 318 (by decide), o 319 (by decide), yOps_6]
    exact h12 (f0 (by rw [← p13]; exact q))
  · rw [p11]; omega
  · intro q
    rw [p13]
    exact g1.2.2.2 (by rw [e13]; exact h14 q)
/-- an operator waits -/
theorem yX_push {I I2 : qMI} {ws : List Int32} {n : Nat} {w : Int32} (h : yX sb c0 base I0 I ws n 1) (hf : I 292 13 = 0) (hw : w ≠ 6) (hok : yOkw (w :: ws)) (g : yN (yPush w I) I2) : yX sb c0 base I0 I2 (w :: ws) n 0 := by
  have hlen := yX_len h
  obtain ⟨h1, h2, ⟨h3, h4, h5⟩, ⟨h6, h7, h8⟩, ⟨h9, h10, h11⟩, h12, h13, h14⟩ := h
  obtain ⟨g1, g2⟩ := g
  have f : ∀ j, j ≠ 11 → j ≠ 13 → j ≠ 14 → j ≠ 15 → j ≠ 16 → I2 292 j = yPush w I 292 j := g1.1.2
  have o : ∀ k, k ≠ 292 → I2 k = yPush w I k := g1.1.1
  have p11 : yPush w I 292 11 = I 292 11 := yPush_f (by decide)
  have t3 := g1.2.2.1
  rw [p11] at t3
  have b0 := h10 hf
  have t4 := h2.1.2
  refine ⟨yE_tr h1 (yE_tr yE_push (yE_t g1.1)), g1.2.1, ⟨?_, ?_, hok⟩, ⟨?_, by rw [yOpn_c hw]; exact h7, fun _ => by rw [yOpn_c hw]; exact h8 hf⟩, ⟨?_, fun q => ?_, by rw [yOps_c hw]; omega⟩, fun q => ?_, by omega, fun q => absurd hf (h14 q)⟩
  · rw [o 320 (by decide)]; exact yW_push h3 h4
  · rw [f 44 (by decide) (by decide) (by decide) (by decide) (by decide), yPush_44, i_s (by omega), h4, List.length_cons]; omega
  · rw [f 12 (by decide) (by decide) (by decide) (by decide) (by decide), yPush_f (by decide), yOpn_c hw]; exact h6
  · rw [f 40 (by decide) (by decide) (by decide) (by decide) (by decide), yPush_f (by decide)]; exact h9
  · have := g2 q
    rw [p11] at this
    rw [yOps_c hw]
    omega
  · rw [o 318 (by decide), o 319 (by decide), yPush_o (by decide) (by decide), yPush_o (by decide) (by decide), yOps_c hw]
    exact h12 hf
/-- one is closed -/
theorem yX_close {I : qMI} {ws : List Int32} {n : Nat} (h : yX sb c0 base I0 I (6 :: ws) n 1) : yX sb c0 base I0 (qUp (qUp I 292 44 (I 292 44 - 1)) 292 12 (I 292 12 - 1)) ws n 1 := by
  obtain ⟨h1, h2, ⟨h3, h4, h5⟩, ⟨h6, h7, h8⟩, ⟨h9, h10, h11⟩, h12, h13, h14⟩ := h
  rw [yOpn_6] at h6 h7 h8
  rw [yOps_6] at h10 h11 h12
  rw [List.length_cons] at h4
  have f : ∀ j, j ≠ 12 → j ≠ 44 → (qUp (qUp I 292 44 (I 292 44 - 1)) 292 12 (I 292 12 - 1)) 292 j = I 292 j := fun j a b => by rw [qUp_ne (fun q => a q.2), qUp_ne (fun q => b q.2)]
  have o : ∀ k, k ≠ 292 → (qUp (qUp I 292 44 (I 292 44 - 1)) 292 12 (I 292 12 - 1)) k = I k := fun k a => funext fun i => by rw [qUp_ne (fun q => a q.1), qUp_ne (fun q => a q.1)]
  have f11 := f 11 (by decide) (by decide)
  have f13 := f 13 (by decide) (by decide)
  refine ⟨yE_tr h1 (yE_tr (yE_f (j := 44) (by omega)) (yE_f (j := 12) (by omega))), ?_, ⟨?_, ?_, h5.2⟩, ⟨?_, by omega, fun q => ?_⟩, ⟨?_, fun q => ?_, h11⟩, fun q => ?_, ?_, ?_⟩
  · unfold yOk; rw [f11, f13]; exact h2
  · rw [o 320 (by decide)]; exact h3.2
  · rw [qUp_ne (fun q => by omega), qUp_at, if_pos ⟨rfl, rfl⟩, i_p' (by omega), h4]; omega
  · rw [qUp_at, if_pos ⟨rfl, rfl⟩, i_p' (by omega), h6]; omega
  · have := h8 (by rw [← f13]; exact q); omega
  · rw [f 40 (by decide) (by decide)]; exact h9
  · rw [f11]; exact h10 (by rw [← f13]; exact q)
  · rw [o 318 (by decide), o 319 (by decide)]; exact h12 (by rw [← f13]; exact q)
  · rw [f11]; exact h13
  · rw [f13]; exact h14
/-- behind an expression -/
def yXP (sb c0 base : Nat) (I0 I' : qMI) : Prop := ∃ ws n fl, yX sb c0 base I0 I' ws n fl ∧ (I' 292 13 = 0 → ws = [] ∧ fl = 1 ∧ (I0 292 11).toInt < (I' 292 11).toInt)
theorem yOpenLoop (hR : wkR R) {Q : qQ} {b more : Int32} {n : Nat} {tl : Int} (K : ∀ (I' : qMI) (ws' : List Int32), yX sb c0 base I0 I' ws' n 0 → tl ≤ (I' 292 11).toInt → wkB l G (d + 2 + 1) n_X9_expression Q 84 [.ref 292, .int b, .int more] [] I' L R) : ∀ (m : Nat) (I : qMI) (ws : List Int32), (400 - (I 292 11).toInt).toNat = m → yX sb c0 base I0 I ws n 0 → tl ≤ (I 292 11).toInt → wkB l G (d + 2 + 1) n_X9_expression Q 23 [.ref 292, .int b, .int more] [] I L R := by
  intro m
  induction m using Nat.strongRecOn with
  | ind m ih =>
    intro I ws hm h ht
    refine w_X9_expression_23 (yIs (d := d + 1) hR h.2.1) (fun y I' L' hq => ?_)
    obtain ⟨rfl, rfl, hy⟩ := hq
    rcases hy with ⟨rfl, f0, -⟩ | ⟨rfl, -⟩
    case inr => exact w_X9_expression_29 (fun _ => K I' ws h ht) (fun q => absurd rfl q)
    refine w_X9_expression_29 (fun q => absurd q (by decide)) (fun _ => ?_)
    have t0 := h.2.1.1
    -- from 46 on
    have go : ∀ I1 : qMI, yX sb c0 base I0 I1 ws n 0 → base + yOpn ws ≤ 6 → (I1 292 13 = 0 → base + yOpn ws ≤ 5) → I1 292 11 = I' 292 11 → wkB l G (d + 2 + 1) n_X9_expression Q 46 [.ref 292, .int b, .int more] [] I1 L' R := by
      intro I1 h1 hb hb0 e1
      have ok2 : yOk (qUp I1 292 12 (I1 292 12 + 1)) := by
        unfold yOk
        rw [qUp_ne (by omega), qUp_ne (by omega)]
        exact h1.2.1
      refine w_X9_expression_46 (yGoes (d := d) hR ok2) (fun I2 L2 hq => ?_)
      obtain ⟨rfl, hN⟩ := hq
      have hx := yX_open h1 hb hb0 hN
      have hl := yX_len h1
      have e44 : I2 292 44 = I1 292 44 := (hN.1.1.2 44 (by decide) (by decide) (by decide) (by decide) (by decide)).trans (qUp_ne (by omega))
      have hw : vp_in (I2 292 44) 64 := by
        have := h1.2.2.1.2.1
        rw [e44]
        exact vin (by omega) (by omega)
      refine w_X9_expression_60 hR hw ?_
      rw [yPush_eq]
      have p11 : yPush 6 I2 292 11 = I2 292 11 := yPush_f (by decide)
      have p13 : yPush 6 I2 292 13 = I2 292 13 := yPush_f (by decide)
      have t2 := hN.1.2.2.1
      rw [show (qUp I1 292 12 (I1 292 12 + 1)) 292 11 = I1 292 11 from qUp_ne (by omega), e1] at t2
      by_cases hf : I2 292 13 = 0
      · have := hN.2 hf
        rw [show (qUp I1 292 12 (I1 292 12 + 1)) 292 11 = I1 292 11 from qUp_ne (by omega), e1] at this
        have t3 := hN.1.2.1.1
        exact ih (400 - (yPush 6 I2 292 11).toInt).toNat (by rw [p11]; omega) (yPush 6 I2) (6 :: ws) rfl hx (by rw [p11]; omega)
      · refine w_X9_expression_23 (yIs (d := d + 1) hR hx.2.1) (fun y I3 L3 hq => ?_)
        obtain ⟨rfl, rfl, hy⟩ := hq
        rcases hy with ⟨-, q, -⟩ | ⟨rfl, -⟩
        · exact absurd (by rw [← p13]; exact q) hf
        · exact w_X9_expression_29 (fun _ => K _ (6 :: ws) hx (by rw [p11]; omega)) (fun q => absurd rfl q)
    have h8 := h.2.2.2.1.2.2 f0
    have h6 := h.2.2.2.1.1
    refine w_X9_expression_32 (fun q => ?_) (fun q => w_X9_expression_41 (yFail (d := d + 1) hR h.2.1 (by decide) (by decide)) (fun I1 L1 hq => ?_))
    · have : ¬ (I' 292 12).toInt = 6 := fun z => q (i_eq.mpr z)
      exact go I' h h8 (fun _ => by omega) rfl
    · obtain ⟨rfl, q1, q2, q3⟩ := hq
      exact go I1 (yX_s h q1) h8 (fun z => absurd z q2) q3
theorem yCloseLoop (hR : wkR R) (hsb : sb = 0 ∨ sb = 420) {Q : qQ} {b more : Int32} (hb : b.toInt = base) {tl : Int} (K : ∀ (I' : qMI) (ws' : List Int32) (n' : Nat), yX sb c0 base I0 I' ws' n' 1 → tl ≤ (I' 292 11).toInt → wkB l G (d + 2 + 1) n_X9_expression Q 145 [.ref 292, .int b, .int more] [] I' L R) : ∀ (m : Nat) (I : qMI) (ws : List Int32) (n : Nat), (400 - (I 292 11).toInt).toNat = m → yX sb c0 base I0 I ws n 1 → tl ≤ (I 292 11).toInt → wkB l G (d + 2 + 1) n_X9_expression Q 96 [.ref 292, .int b, .int more] [] I L R := by
  intro m
  induction m using Nat.strongRecOn with
  | ind m ih =>
    intro I ws n hm h ht
    refine w_X9_expression_96 (yIs (d := d + 1) hR h.2.1) (fun y I' L' hq => ?_)
    obtain ⟨rfl, rfl, hy⟩ := hq
    rcases hy with ⟨rfl, f0, -⟩ | ⟨rfl, -⟩
    case inr => exact w_X9_expression_102 (fun _ => K I' ws n h ht) (fun q => absurd rfl q)
    refine w_X9_expression_102 (fun q => absurd q (by decide)) (fun _ => w_X9_expression_105 (fun _ => K I' ws n h ht) (fun hop => ?_))
    refine w_X9_expression_113 (yOut (d := d) hR hsb h) (fun I1 L1 hq => ?_)
    obtain ⟨rfl, ws1, n1, h1, e1, e2, -, e3, e4⟩ := hq
    have h6 := h.2.2.2.1.1
    have hop : ¬ _ := fun q => hop (i_le.mpr q)
    rw [h6, hb] at hop
    have hpos : 0 < yOpn ws1 := by omega
    cases ws1 with
    | nil => exact absurd hpos (by decide)
    | cons w r =>
      have hw : w = 6 := e2 rfl
      subst hw
      have hx := yX_close h1
      have e12 : (qUp I1 292 44 (I1 292 44 - 1)) 292 12 = I1 292 12 := qUp_ne (by omega)
      refine w_X9_expression_118 (P := fun I2 L2 => L2 = L1 ∧ yN (qUp (qUp I1 292 44 (I1 292 44 - 1)) 292 12 (I1 292 12 - 1)) I2) (by rw [e12]; exact yGoes (d := d) hR hx.2.1) (fun I2 L2 hq => ?_)
      obtain ⟨rfl, hN⟩ := hq
      have hx2 := yX_s hx hN.1
      have e11 : (qUp (qUp I1 292 44 (I1 292 44 - 1)) 292 12 (I1 292 12 - 1)) 292 11 = I' 292 11 := by rw [qUp_ne (by omega), qUp_ne (by omega), e3]
      have t2 := hN.1.2.2.1
      rw [e11] at t2
      have t3 := hN.1.2.1.1
      have t0 := h.2.1.1
      refine w_X9_expression_142 ?_
      by_cases hf : I2 292 13 = 0
      · have := hN.2 hf
        rw [e11] at this
        exact ih (400 - (I2 292 11).toInt).toNat (by omega) I2 r n1 rfl hx2 (by omega)
      · refine w_X9_expression_96 (yIs (d := d + 1) hR hx2.2.1) (fun y I3 L3 hq => ?_)
        obtain ⟨rfl, rfl, hy⟩ := hq
        rcases hy with ⟨-, q, -⟩ | ⟨rfl, -⟩
        · exact absurd q hf
        · exact w_X9_expression_102 (fun _ => K I3 r n1 hx2 (by omega)) (fun q => absurd rfl q)
theorem yGp_nil : ∀ {ws : List Int32}, yGp ws → yOpn ws = 0 → ws = []
  | [], _, _ => rfl
  | w :: r, h, q => by
    have hw : w = 6 := h
    subst hw
    rw [yOpn_6] at q
    omega
theorem yExprLoop (hR : wkR R) (hsb : sb = 0 ∨ sb = 420) {b : Int32} (hb : b.toInt = base) : ∀ (m : Nat) (I : qMI) (ws : List Int32) (n : Nat), (400 - (I 292 11).toInt).toNat = m → yX sb c0 base I0 I ws n 0 → wkB l G (d + 3 + 1) n_X9_expression (wkPV R (fun I' L' => L' = L ∧ yXP sb c0 base I0 I')) 12 [.ref 292, .int b, .int 1] [] I L R := by
  intro m
  induction m using Nat.strongRecOn with
  | ind m ih =>
    intro I ws n hm h
    refine w_X9_expression_12 (fun q => absurd q (by decide)) (fun _ => w_X9_expression_16 (fun q => w_X9_expression_272 ⟨rfl, rfl, rfl, rfl, ws, n, 0, h, fun z => absurd z q⟩) (fun f0 => ?_))
    have t0 := h.2.1.1
    have ti := h.2.2.2.2.2.2.1
    -- not more: the end
    have stop : ∀ (I1 : qMI) (ws1 : List Int32) (n1 : Nat), yX sb c0 base I0 I1 ws1 n1 1 → (I 292 11).toInt + 1 ≤ (I1 292 11).toInt → wkB l G (d + 3 + 1) n_X9_expression (wkPV R (fun I' L' => L' = L ∧ yXP sb c0 base I0 I')) 191 [.ref 292, .int b, .int 0] [] I1 L R := by
      intro I1 ws1 n1 h1 t1
      have fin : ∀ I2 : qMI, yX sb c0 base I0 I2 ws1 n1 1 → (I2 292 13 = 0 → yOpn ws1 = 0) → (I 292 11).toInt + 1 ≤ (I2 292 11).toInt → wkB l G (d + 3 + 1) n_X9_expression (wkPV R (fun I' L' => L' = L ∧ yXP sb c0 base I0 I')) 204 [.ref 292, .int b, .int 0] [] I2 L R := by
        intro I2 h2 ho t2
        refine w_X9_expression_204 (yOut (d := d + 1) hR hsb h2) (fun I3 L3 hq => ?_)
        obtain ⟨rfl, ws3, n3, h3, e1, e2, -, e3, e4⟩ := hq
        refine w_X9_expression_209 ⟨rfl, rfl, rfl, rfl, ws3, n3, 1, h3, fun z => ⟨yGp_nil (e2 rfl) (by rw [e1]; exact ho (by rw [← e4]; exact z)), rfl, ?_⟩⟩
        rw [e3]
        omega
      have h6 := h1.2.2.2.1.1
      refine w_X9_expression_191 (fun q => fin I1 h1 (fun _ => ?_) t1) (fun q => w_X9_expression_199 (yFail (d := d + 2) hR h1.2.1 (by decide) (by decide)) (fun I2 L2 hq => ?_))
      · have := i_le.mp q
        omega
      · obtain ⟨rfl, q1, q2, q3⟩ := hq
        exact fin I2 (yX_s h1 q1) (fun z => absurd z q2) (by rw [q3]; exact t1)
    -- an operator: on
    have go : ∀ (I1 : qMI) (ws1 : List Int32) (n1 : Nat), yX sb c0 base I0 I1 ws1 n1 1 → (I 292 11).toInt + 1 ≤ (I1 292 11).toInt → I1 292 13 = 0 → (I1 295 (I1 292 11).toNatClampNeg = 8 ∨ I1 295 (I1 292 11).toNatClampNeg = 9 ∨ I1 295 (I1 292 11).toNatClampNeg = 10 ∨ I1 295 (I1 292 11).toNatClampNeg = 15) → wkB l G (d + 3 + 1) n_X9_expression (wkPV R (fun I' L' => L' = L ∧ yXP sb c0 base I0 I')) 210 [.ref 292, .int b, .int 1] [] I1 L R := by
      intro I1 ws1 n1 h1 t1 f1 hop
      have out : ∀ s : Int32, (s = 0 → (I1 295 (I1 292 11).toNatClampNeg = 8 ∨ I1 295 (I1 292 11).toNatClampNeg = 9)) → (s ≠ 0 → (I1 295 (I1 292 11).toNatClampNeg = 10 ∨ I1 295 (I1 292 11).toNatClampNeg = 15)) → wkB l G (d + 3 + 1) n_X9_expression (wkPV R (fun I' L' => L' = L ∧ yXP sb c0 base I0 I')) 234 [.ref 292, .int b, .int 1] [.int s, .ref 292] I1 L R := by
        intro s hs0 hs1
        refine w_X9_expression_234 (yOut (d := d + 1) hR hsb h1) (fun I2 L2 hq => ?_)
        obtain ⟨rfl, ws2, n2, h2, e1, e2, e3, e4, e5⟩ := hq
        have hl := yX_len h2
        have h44 := h2.2.2.1.2.1
        have e295 : I2 295 = I1 295 := by rw [h2.1.1 295 (by decide) (by decide) (by decide) (by decide), h1.1.1 295 (by decide) (by decide) (by decide) (by decide)]
        generalize hw : I1 295 (I1 292 11).toNatClampNeg = w at hs0 hs1 hop
        have hw2 : I2 295 (I2 292 11).toNatClampNeg = w := by rw [e4, e295]; exact hw
        have hw6 : w ≠ 6 := by rcases hop with rfl | rfl | rfl | rfl <;> decide
        have hok : yOkw (w :: ws2) := by
          refine ⟨?_, h2.2.2.1.2.2⟩
          by_cases hs : s = 0
          · exact Or.inr (Or.inl ⟨hs0 hs, e2 hs⟩)
          · exact Or.inr (Or.inr ⟨hs1 hs, e3 hs⟩)
        have okP : yOk (yPush w I2) := by
          unfold yOk
          rw [yPush_f (by decide), yPush_f (by decide)]
          exact h2.2.1
        refine w_X9_expression_237 (P := fun I3 L3 => L3 = L2 ∧ yN (yPush w I2) I3) hR (yOk_t h2.2.1) (vin (by omega) (by omega)) ?_ (fun I3 L3 hq => ?_)
        · rw [hw2, yPush_eq]
          exact yGoes (d := d + 1) hR okP
        · obtain ⟨rfl, hN⟩ := hq
          have hx := yX_push h2 (by rw [e5]; exact f1) hw6 hok hN
          have t3 := hN.1.2.2.1
          rw [yPush_f (by decide), e4] at t3
          have t4 := hN.1.2.1.1
          exact w_X9_expression_269 (ih (400 - (I3 292 11).toInt).toNat (by omega) I3 (w :: ws2) n2 rfl hx)
      refine w_X9_expression_210 (yIs (d := d + 2) hR h1.2.1) (fun y I2 L2 hq => ?_)
      obtain ⟨rfl, rfl, hy⟩ := hq
      rcases hy with ⟨rfl, -, k1⟩ | ⟨rfl, k1⟩
      · exact w_X9_expression_217 (fun _ => w_X9_expression_229 (out 1 (fun q => absurd q (by decide)) (fun _ => Or.inl k1))) (fun q => absurd q (by decide))
      · refine w_X9_expression_217 (fun q => absurd rfl q) (fun _ => w_X9_expression_220 (yIs (d := d + 2) hR h1.2.1) (fun y I3 L3 hq => ?_))
        obtain ⟨rfl, rfl, hy⟩ := hq
        rcases hy with ⟨rfl, -, k2⟩ | ⟨rfl, k2⟩
        · exact w_X9_expression_226 (fun q => absurd q (by decide)) (fun _ => w_X9_expression_229 (out 1 (fun q => absurd q (by decide)) (fun _ => Or.inr k2)))
        · refine w_X9_expression_226 (fun _ => w_X9_expression_233 (out 0 (fun _ => ?_) (fun q => absurd rfl q))) (fun q => absurd rfl q)
          rcases hop with q | q | q | q
          · exact Or.inl q
          · exact Or.inr q
          · exact absurd ⟨f1, q⟩ k1
          · exact absurd ⟨f1, q⟩ k2
    -- which it is
    have more : ∀ (I1 : qMI) (ws1 : List Int32) (n1 : Nat), yX sb c0 base I0 I1 ws1 n1 1 → (I 292 11).toInt + 1 ≤ (I1 292 11).toInt → wkB l G (d + 3 + 1) n_X9_expression (wkPV R (fun I' L' => L' = L ∧ yXP sb c0 base I0 I')) 145 [.ref 292, .int b, .int 1] [] I1 L R := by
      intro I1 ws1 n1 h1 t1
      have yes : I1 292 13 = 0 → (I1 295 (I1 292 11).toNatClampNeg = 8 ∨ I1 295 (I1 292 11).toNatClampNeg = 9 ∨ I1 295 (I1 292 11).toNatClampNeg = 10 ∨ I1 295 (I1 292 11).toNatClampNeg = 15) → wkB l G (d + 3 + 1) n_X9_expression (wkPV R (fun I' L' => L' = L ∧ yXP sb c0 base I0 I')) 181 [.ref 292, .int b, .int 1] [] I1 L R := fun f1 hop => w_X9_expression_181 (w_X9_expression_186 (fun _ => go I1 ws1 n1 h1 t1 f1 hop) (fun q => absurd q (by decide)))
      refine w_X9_expression_145 (yIs (d := d + 2) hR h1.2.1) (fun y I2 L2 hq => ?_)
      obtain ⟨rfl, rfl, hy⟩ := hq
      rcases hy with ⟨rfl, f1, k1⟩ | ⟨rfl, -⟩
      · exact w_X9_expression_151 (fun _ => yes f1 (Or.inl k1)) (fun q => absurd q (by decide))
      refine w_X9_expression_151 (fun q => absurd rfl q) (fun _ => w_X9_expression_154 (yIs (d := d + 2) hR h1.2.1) (fun y I3 L3 hq => ?_))
      obtain ⟨rfl, rfl, hy⟩ := hq
      rcases hy with ⟨rfl, f1, k1⟩ | ⟨rfl, -⟩
      · exact w_X9_expression_160 (fun _ => yes f1 (Or.inr (Or.inl k1))) (fun q => absurd q (by decide))
      refine w_X9_expression_160 (fun q => absurd rfl q) (fun _ => w_X9_expression_163 (yIs (d := d + 2) hR h1.2.1) (fun y I4 L4 hq => ?_))
      obtain ⟨rfl, rfl, hy⟩ := hq
      rcases hy with ⟨rfl, f1, k1⟩ | ⟨rfl, -⟩
      · exact w_X9_expression_169 (fun _ => yes f1 (Or.inr (Or.inr (Or.inl k1)))) (fun q => absurd q (by decide))
      refine w_X9_expression_169 (fun q => absurd rfl q) (fun _ => w_X9_expression_172 (yIs (d := d + 2) hR h1.2.1) (fun y I5 L5 hq => ?_))
      obtain ⟨rfl, rfl, hy⟩ := hq
      rcases hy with ⟨rfl, f1, k1⟩ | ⟨rfl, -⟩
      · exact w_X9_expression_178 (fun q => absurd q (by decide)) (fun _ => yes f1 (Or.inr (Or.inr (Or.inr k1))))
      · exact w_X9_expression_178 (fun _ => w_X9_expression_185 (w_X9_expression_186 (fun q => absurd rfl q) (fun _ => stop I5 ws1 n1 h1 t1))) (fun q => absurd rfl q)
    refine yOpenLoop (d := d + 1) (tl := (I 292 11).toInt) hR (fun I1 ws1 h1 t1 => ?_) _ I ws rfl h (Int.le_refl _)
    refine w_X9_expression_84 (yUnit (d := d) hR hsb h1) (fun I2 L2 hq => ?_)
    obtain ⟨rfl, hq⟩ := hq
    rcases hq with ⟨q1, n2, fl2, h2⟩ | ⟨q1, q2, h2⟩
    · refine w_X9_expression_88 (fun q => ?_) (fun _ => w_X9_expression_95 ⟨rfl, rfl, rfl, rfl, ws1, n2, fl2, h2, fun z => absurd z q1⟩)
      exfalso
      have a := h2.2.1.2.1
      have b' := i_le.mp q
      rw [show (0 : Int32).toInt = 0 from rfl] at b'
      exact q1 (i_eq.mpr (by rw [show (0 : Int32).toInt = 0 from rfl]; omega))
    · refine w_X9_expression_88 (fun _ => ?_) (fun q => absurd (by rw [q1]; decide) q)
      exact yCloseLoop (d := d + 1) (tl := (I 292 11).toInt + 1) hR hsb hb (fun I3 ws3 n3 h3 t3 => more I3 ws3 n3 h3 t3) _ I2 ws1 (n + 1) rfl h2 (by omega)
/-- an expression, from a state with its bounds kept -/
theorem yExpr (hR : wkR R) {I : qMI} (hsb : sb = 0 ∨ sb = 420) (hk : yOk I) (ho : (I 292 12).toInt = base) (hb7 : base ≤ 7) (hb6 : I 292 13 = 0 → base ≤ 6) (hc : (I 292 40).toInt = c0) (hc1 : I 292 13 = 0 → (c0 : Int) ≤ sb + (I 292 11).toInt) (hc2 : c0 ≤ sb + 402) : wkV l G (d + 4) n_X9_expression [.ref 292] I L R (fun I' L' => L' = L ∧ yXP sb c0 base I I') := by
  have e12 : (qUp I 292 44 0) 292 12 = I 292 12 := qUp_ne (by omega)
  have f : ∀ j, j ≠ 44 → (qUp I 292 44 0) 292 j = I 292 j := fun j a => qUp_ne (fun q => a q.2)
  have hx : yX sb c0 base I (qUp I 292 44 0) [] 0 0 := by
    refine ⟨yE_f (j := 44) (by omega), ?_, ⟨trivial, ?_, trivial⟩, ⟨?_, hb7, fun q => hb6 (by rw [← f 13 (by decide)]; exact q)⟩, ⟨?_, fun q => ?_, hc2⟩, fun _ => yR_0 _ _ _, ?_, ?_⟩
    · unfold yOk; rw [f 11 (by decide), f 13 (by decide)]; exact hk
    · rw [qUp_at, if_pos ⟨rfl, rfl⟩]; rfl
    · rw [f 12 (by decide)]; exact ho
    · rw [f 40 (by decide)]; exact hc
    · rw [f 11 (by decide)]; exact hc1 (by rw [← f 13 (by decide)]; exact q)
    · rw [f 11 (by decide)]; exact Int.le_refl _
    · rw [f 13 (by decide)]; exact id
  refine wkC_of 2 (by decide) (Nat.le_of_ble_eq_true rfl) (w_X9_expression_0 ?_)
  rw [e12]
  exact yExprLoop (d := d) hR hsb ho _ _ [] 0 rfl hx
end
