/-! ===== one that is told ===== -/
/-- between two that are told: c steps, br branches, th THINGS, se SEATS of side s -/
def yPS (s : Nat) (I0 I : qMI) (c br th se : Nat) : Prop := yF s I0 I ∧ yCS (420 * s) c I ∧ ((I 292 34).toInt = br ∧ 130 * s ≤ br ∧ br ≤ 130 * s + 102) ∧ ((I 301 s).toInt = th ∧ (I 304 s).toInt = se ∧ th ≤ 6 ∧ se ≤ 6) ∧ (0 ≤ (I 292 20).toInt ∧ (I 292 20).toInt ≤ 12) ∧ (I 292 13 = 0 → (I 292 20).toInt = (th + se : Nat) ∧ 4 * ((br : Int) - (130 * s : Nat)) ≤ (I 292 11).toInt ∧ (∀ b, 130 * s ≤ b → b < br → yB (420 * s) I b (420 * s + c)) ∧ ∀ k, k < 5 → I 311 (5 * s + k) = I 312 (5 * s + k) ∨ ((130 * s : Nat) ≤ (I 311 (5 * s + k)).toInt ∧ (I 312 (5 * s + k)).toInt ≤ br))
theorem yPS_s {s c br th se : Nat} {I0 I J : qMI} (h : yPS s I0 I c br th se) (g : yS I J) : yPS s I0 J c br th se := by
  obtain ⟨h1, h2, ⟨h3, h4, h5⟩, ⟨h6, h7, h8, h9⟩, ⟨h10, h11⟩, h12⟩ := h
  have o := g.1.1
  have f := g.1.2
  have f20 := f 20 (by decide) (by decide) (by decide) (by decide) (by decide)
  have f34 := f 34 (by decide) (by decide) (by decide) (by decide) (by decide)
  refine ⟨yF_tr h1 (yF_t g.1), yCS_s h2 g, ⟨by rw [f34]; exact h3, h4, h5⟩, ⟨by rw [o 301 (by decide)]; exact h6, by rw [o 304 (by decide)]; exact h7, h8, h9⟩, by rw [f20]; exact ⟨h10, h11⟩, fun q => ?_⟩
  obtain ⟨q1, q2, q3, q4⟩ := h12 (yS_f0 g q)
  have t := g.2.2.1
  refine ⟨by rw [f20]; exact q1, by omega, fun b b1 b2 => ?_, fun k hk => ?_⟩
  · exact yB_congr (Nat.le_refl _) (fun i _ => ⟨by rw [o 318 (by decide)], by rw [o 319 (by decide)]⟩) ⟨by rw [o 313 (by decide)], by rw [o 314 (by decide)], by rw [o 315 (by decide)], by rw [o 316 (by decide)], by rw [o 317 (by decide)]⟩ (q3 b b1 b2)
  · rw [o 311 (by decide), o 312 (by decide)]; exact q4 k hk
/-- a write that none of it hangs on -/
theorem yPS_w {s c br th se k i : Nat} {I0 I : qMI} {x : Int32} (hk : 302 ≤ k ∧ k ≤ 310 ∧ k ≠ 304) (h : yPS s I0 I c br th se) : yPS s I0 (qUp I k i x) c br th se := by
  obtain ⟨h1, h2, h3, h4, h5, h6⟩ := h
  have o : ∀ a, a ≠ k → (qUp I k i x) a = I a := fun a ha => funext fun j => qUp_ne (fun q => ha q.1)
  have o292 := o 292 (by omega)
  refine ⟨yF_tr h1 (yF_up (by omega)), yCS_of h2 (fun j _ => by rw [o292]), by rw [o292]; exact h3, by rw [o 301 (by omega), o 304 (by omega)]; exact h4, by rw [o292]; exact h5, fun q => ?_⟩
  rw [o292] at q ⊢
  obtain ⟨q1, q2, q3, q4⟩ := h6 q
  refine ⟨q1, q2, fun b b1 b2 => ?_, fun j hj => by rw [o 311 (by omega), o 312 (by omega)]; exact q4 j hj⟩
  exact yB_congr (Nat.le_refl _) (fun i _ => ⟨by rw [o 318 (by omega)], by rw [o 319 (by omega)]⟩) ⟨by rw [o 313 (by omega)], by rw [o 314 (by omega)], by rw [o 315 (by omega)], by rw [o 316 (by omega)], by rw [o 317 (by omega)]⟩ (q3 b b1 b2)
theorem yf0 {I : qMI} (hk : yOk I) (q : I 292 13 ≤ 0) : I 292 13 = 0 := by
  have a := hk.2.1
  have b := i_le.mp q
  rw [show (0 : Int32).toInt = 0 from rfl] at b
  exact i_eq.mpr (by rw [show (0 : Int32).toInt = 0 from rfl]; omega)
def yP1 (s : Nat) (I0 I I' : qMI) : Prop := ∃ c br th se, yPS s I0 I' c br th se ∧ (I' 292 13 = 0 → (I 292 11).toInt + 1 ≤ (I' 292 11).toInt)
section
variable {l : Launch} {G : qG} {d : Nat} {I I0 : qMI} {L : qML} {R : qMR} {s c br th se : Nat}
theorem yThing (hR : wkR R) (hs : s = 0 ∨ s = 1) (h19 : (I0 292 19).toInt = s) (h : yPS s I0 I c br th se) (f0 : I 292 13 = 0) : wkB l G (d + 4 + 1) n_X9_tellOne (wkPV R (fun I' _ => yP1 s I0 I I')) 68 [.ref 292, wkU] [] I L R := by
  have e19 : ∀ J c br th se, yPS s I0 J c br th se → (J 292 19).toInt = s := fun J c br th se hJ => by rw [hJ.1.2.2.2.2.2 19 (by decide) (by decide) (by decide) (by decide) (by decide) (by decide) (by decide) (by decide) (by decide) (by decide)]; exact h19
  have v19 : ∀ J c br th se, yPS s I0 J c br th se → vp_in (J 292 19) 2 ∧ (J 292 19).toNatClampNeg = s := fun J c br th se hJ => by have := e19 J c br th se hJ; exact ⟨vin (by omega) (by omega), by rw [tcn]; omega⟩
  obtain ⟨v1, w1⟩ := v19 _ _ _ _ _ h
  refine w_X9_tellOne_68 hR v1 (yRoomFor (d := d + 1) hR h.2.1.1) (fun I1 L1 hq => ?_)
  obtain ⟨rfl, hN1, hne⟩ := hq
  rw [w1] at hne
  have h1 := yPS_s h hN1.1
  refine w_X9_tellOne_83 (fun q => ?_) (fun q => w_X9_tellOne_90 ⟨rfl, rfl, rfl, c, br, th, se, h1, fun z => absurd (by rw [z]; decide) q⟩)
  have g1 := yf0 h1.2.1.1 q
  have hlt : th ≤ 5 := by
    have a := hne g1
    have b := h.2.2.2.1
    have : ¬ (I 301 s).toInt = 6 := fun z => a (i_eq.mpr z)
    omega
  refine w_X9_tellOne_91 (yNamed (d := d) hR h1.2.1.1 h1.2.2.2.2.1.2) (fun tk I2 L2 hq => ?_)
  obtain ⟨rfl, rfl, hN2⟩ := hq
  have h2 := yPS_s h1 hN2.1
  obtain ⟨v2, w2⟩ := v19 _ _ _ _ _ h2
  have ix : ∀ J, yPS s I0 J c br th se → (6 * J 292 19 + J 301 s).toInt = 6 * s + th := by
    intro J hJ
    have a := e19 _ _ _ _ _ hJ
    have b := hJ.2.2.2.1
    have e6 : ((6 : Int32) * J 292 19).toInt = 6 * s := by rw [i_mul (by rw [show (6 : Int32).toInt = 6 from rfl]; omega) (by rw [show (6 : Int32).toInt = 6 from rfl]; omega), show (6 : Int32).toInt = 6 from rfl, a]
    rw [i_add (by omega) (by omega), e6]
    omega
  refine w_X9_tellOne_95 hR v2 (yBounded (d := d + 1) hR h2.2.1.1) (fun y I3 L3 hq => ?_)
  obtain ⟨rfl, hN3⟩ := hq
  have h3 := yPS_s h2 hN3.1
  rw [w2]
  have i2 := ix _ h2
  have h4 := yPS_w (k := 302) (i := (6 * I2 292 19 + I2 301 s).toNatClampNeg) (x := y) (by omega) h3
  obtain ⟨v4, w4⟩ := v19 _ _ _ _ _ h4
  refine w_X9_tellOne_124 hR (vin (by omega) (by omega)) v4 (yBounded (d := d + 1) hR h4.2.1.1) (fun y2 I5 L5 hq => ?_)
  obtain ⟨rfl, hN5⟩ := hq
  rw [w4]
  have i4 := ix _ h4
  have h5 := yPS_s h4 hN5.1
  have h6 := yPS_w (k := 303) (i := (6 * (qUp I3 302 (6 * I2 292 19 + I2 301 s).toNatClampNeg y) 292 19 + (qUp I3 302 (6 * I2 292 19 + I2 301 s).toNatClampNeg y) 301 s).toNatClampNeg) (x := y2) (by omega) h5
  refine w_X9_tellOne_153 (vin (by omega) (by omega)) (yEnds (d := d) hR h6.2.1.1 (yOk_t h1.2.1.1) (fun z => ?_)) (fun I7 L7 hq => ?_)
  · have a := (h6.2.2.2.2.2 z).1
    have b := h6.2.2.2.1
    exact vin (by omega) (by omega)
  rcases hq with ⟨q1, q2⟩ | ⟨q1, J, q2, q3, q4⟩
  · exact w_X9_tellOne_159 (fun _ => w_X9_tellOne_427 ⟨rfl, rfl, rfl, c, br, th, se, yPS_s h6 q2, fun z => absurd z q1⟩) (fun z => absurd z q1)
  · have hJ := yPS_s h6 q2.1
    refine w_X9_tellOne_159 (fun z => absurd q1 z) (fun _ => ?_)
    have o7 : ∀ k, k ≠ 292 → I7 k = J k := fun k a => by rw [q4]; exact funext fun i => qUp_ne (fun q => a q.1)
    have f7 : ∀ j, j ≠ 20 → I7 292 j = J 292 j := fun j a => by rw [q4]; exact qUp_ne (fun q => a q.2)
    have e7 : (I7 292 19).toInt = s := by rw [f7 19 (by decide)]; exact e19 _ _ _ _ _ hJ
    have v7 : vp_in (I7 292 19) 2 := vin (by omega) (by omega)
    have w7 : (I7 292 19).toNatClampNeg = s := by rw [tcn]; omega
    refine w_X9_tellOne_166 hR v7 v7 (w_X9_tellOne_427 ⟨rfl, rfl, rfl, c, br, th + 1, se, ?_, fun _ => ?_⟩)
    · rw [w7]
      have hCt : (J 301 s).toInt = th := by have := hJ.2.2.2.1; omega
      have fz : ∀ j, (qUp I7 301 s (I7 301 s + 1)) 292 j = I7 292 j := fun j => qUp_ne (by omega)
      have oz : ∀ k, k ≠ 292 → k ≠ 301 → (qUp I7 301 s (I7 301 s + 1)) k = J k := fun k a b => (funext fun i => qUp_ne (fun q => b q.1)).trans (o7 k a)
      have eC : ((qUp I7 301 s (I7 301 s + 1)) 301 s).toInt = th + 1 := by rw [qUp_at, if_pos ⟨rfl, rfl⟩, o7 301 (by decide), i_s (by omega), hCt]
      obtain ⟨j1, j2, j3, j4, j5, j6⟩ := hJ
      obtain ⟨x1, x2, x3, x4⟩ := j6 q3
      have e20 : (I7 292 20).toInt = th + se + 1 := by
        rw [q4, qUp_at, if_pos ⟨rfl, rfl⟩, i_s (by have := h6.2.2.2.2.1; omega)]
        have := (h6.2.2.2.2.2 (yS_f0 q2.1 q3)).1
        omega
      refine ⟨yF_tr j1 (yF_tr (by rw [q4]; exact yF_up (by omega)) (yF_up (by omega))), yCS_of j2 (fun j hj => by rw [fz, f7 j (by omega)]), by rw [fz, f7 34 (by decide)]; exact j3, ?_, by rw [fz]; omega, fun _ => ⟨by rw [fz, e20]; omega, by rw [fz, f7 11 (by decide)]; exact x2, fun b b1 b2 => ?_, fun k hk => by rw [oz 311 (by decide) (by decide), oz 312 (by decide) (by decide)]; exact x4 k hk⟩⟩
      · rw [eC, oz 304 (by decide) (by decide)]
        omega
      · exact yB_congr (Nat.le_refl _) (fun i _ => ⟨by rw [oz 318 (by decide) (by decide)], by rw [oz 319 (by decide) (by decide)]⟩) ⟨by rw [oz 313 (by decide) (by decide)], by rw [oz 314 (by decide) (by decide)], by rw [oz 315 (by decide) (by decide)], by rw [oz 316 (by decide) (by decide)], by rw [oz 317 (by decide) (by decide)]⟩ (x3 b b1 b2)
    · rw [qUp_ne (by omega), f7 11 (by decide)]
      have t1 := hN1.2 g1
      have t2 := hN2.1.2.2.1
      have t3 := hN3.1.2.2.1
      have t5 := hN5.1.2.2.1
      have t7 := q2.1.2.2.1
      rw [qUp_ne (by omega)] at t5 t7
      omega
theorem ySeat (hR : wkR R) (hs : s = 0 ∨ s = 1) (h19 : (I0 292 19).toInt = s) (h : yPS s I0 I c br th se) (f0 : I 292 13 = 0) : wkB l G (d + 4 + 1) n_X9_tellOne (wkPV R (fun I' _ => yP1 s I0 I I')) 182 [.ref 292, wkU] [] I L R := by
  have e19 : ∀ J c br th se, yPS s I0 J c br th se → (J 292 19).toInt = s := fun J c br th se hJ => by rw [hJ.1.2.2.2.2.2 19 (by decide) (by decide) (by decide) (by decide) (by decide) (by decide) (by decide) (by decide) (by decide) (by decide)]; exact h19
  have v19 : ∀ J c br th se, yPS s I0 J c br th se → vp_in (J 292 19) 2 ∧ (J 292 19).toNatClampNeg = s := fun J c br th se hJ => by have := e19 J c br th se hJ; exact ⟨vin (by omega) (by omega), by rw [tcn]; omega⟩
  obtain ⟨v1, w1⟩ := v19 _ _ _ _ _ h
  refine w_X9_tellOne_182 hR v1 (yRoomFor (d := d + 1) hR h.2.1.1) (fun I1 L1 hq => ?_)
  obtain ⟨rfl, hN1, hne⟩ := hq
  rw [w1] at hne
  have h1 := yPS_s h hN1.1
  refine w_X9_tellOne_197 (fun q => ?_) (fun q => w_X9_tellOne_204 ⟨rfl, rfl, rfl, c, br, th, se, h1, fun z => absurd (by rw [z]; decide) q⟩)
  have g1 := yf0 h1.2.1.1 q
  have hlt : se ≤ 5 := by
    have a := hne g1
    have b := h.2.2.2.1
    have : ¬ (I 304 s).toInt = 6 := fun z => a (i_eq.mpr z)
    omega
  refine w_X9_tellOne_205 (yNamed (d := d) hR h1.2.1.1 h1.2.2.2.2.1.2) (fun tk I2 L2 hq => ?_)
  obtain ⟨rfl, rfl, hN2⟩ := hq
  have h2 := yPS_s h1 hN2.1
  obtain ⟨v2, w2⟩ := v19 _ _ _ _ _ h2
  have ix : ∀ J, yPS s I0 J c br th se → (6 * J 292 19 + J 304 s).toInt = 6 * s + se := by
    intro J hJ
    have a := e19 _ _ _ _ _ hJ
    have b := hJ.2.2.2.1
    have e6 : ((6 : Int32) * J 292 19).toInt = 6 * s := by rw [i_mul (by rw [show (6 : Int32).toInt = 6 from rfl]; omega) (by rw [show (6 : Int32).toInt = 6 from rfl]; omega), show (6 : Int32).toInt = 6 from rfl, a]
    rw [i_add (by omega) (by omega), e6]
    omega
  refine w_X9_tellOne_209 hR v2 (yBounded (d := d + 1) hR h2.2.1.1) (fun y I3 L3 hq => ?_)
  obtain ⟨rfl, hN3⟩ := hq
  have h3 := yPS_s h2 hN3.1
  rw [w2]
  have i2 := ix _ h2
  have h4 := yPS_w (k := 305) (i := (6 * I2 292 19 + I2 304 s).toNatClampNeg) (x := y) (by omega) h3
  obtain ⟨v4, w4⟩ := v19 _ _ _ _ _ h4
  refine w_X9_tellOne_238 hR (vin (by omega) (by omega)) v4 (yBounded (d := d + 1) hR h4.2.1.1) (fun y2 I5 L5 hq => ?_)
  obtain ⟨rfl, hN5⟩ := hq
  rw [w4]
  have i4 := ix _ h4
  have h5 := yPS_s h4 hN5.1
  have h6 := yPS_w (k := 306) (i := (6 * (qUp I3 305 (6 * I2 292 19 + I2 304 s).toNatClampNeg y) 292 19 + (qUp I3 305 (6 * I2 292 19 + I2 304 s).toNatClampNeg y) 304 s).toNatClampNeg) (x := y2) (by omega) h5
  refine w_X9_tellOne_268 (vin (by omega) (by omega)) (yEnds (d := d) hR h6.2.1.1 (yOk_t h1.2.1.1) (fun z => ?_)) (fun I7 L7 hq => ?_)
  · have a := (h6.2.2.2.2.2 z).1
    have b := h6.2.2.2.1
    exact vin (by omega) (by omega)
  rcases hq with ⟨q1, q2⟩ | ⟨q1, J, q2, q3, q4⟩
  · exact w_X9_tellOne_274 (fun _ => w_X9_tellOne_427 ⟨rfl, rfl, rfl, c, br, th, se, yPS_s h6 q2, fun z => absurd z q1⟩) (fun z => absurd z q1)
  · have hJ := yPS_s h6 q2.1
    refine w_X9_tellOne_274 (fun z => absurd q1 z) (fun _ => ?_)
    have o7 : ∀ k, k ≠ 292 → I7 k = J k := fun k a => by rw [q4]; exact funext fun i => qUp_ne (fun q => a q.1)
    have f7 : ∀ j, j ≠ 20 → I7 292 j = J 292 j := fun j a => by rw [q4]; exact qUp_ne (fun q => a q.2)
    have e7 : (I7 292 19).toInt = s := by rw [f7 19 (by decide)]; exact e19 _ _ _ _ _ hJ
    have v7 : vp_in (I7 292 19) 2 := vin (by omega) (by omega)
    have w7 : (I7 292 19).toNatClampNeg = s := by rw [tcn]; omega
    refine w_X9_tellOne_281 hR v7 v7 (w_X9_tellOne_427 ⟨rfl, rfl, rfl, c, br, th, se + 1, ?_, fun _ => ?_⟩)
    · rw [w7]
      have hCt : (J 304 s).toInt = se := by have := hJ.2.2.2.1; omega
      have fz : ∀ j, (qUp I7 304 s (I7 304 s + 1)) 292 j = I7 292 j := fun j => qUp_ne (by omega)
      have oz : ∀ k, k ≠ 292 → k ≠ 304 → (qUp I7 304 s (I7 304 s + 1)) k = J k := fun k a b => (funext fun i => qUp_ne (fun q => b q.1)).trans (o7 k a)
      have eC : ((qUp I7 304 s (I7 304 s + 1)) 304 s).toInt = se + 1 := by rw [qUp_at, if_pos ⟨rfl, rfl⟩, o7 304 (by decide), i_s (by omega), hCt]
      obtain ⟨j1, j2, j3, j4, j5, j6⟩ := hJ
      obtain ⟨x1, x2, x3, x4⟩ := j6 q3
      have e20 : (I7 292 20).toInt = th + se + 1 := by
        rw [q4, qUp_at, if_pos ⟨rfl, rfl⟩, i_s (by have := h6.2.2.2.2.1; omega)]
        have := (h6.2.2.2.2.2 (yS_f0 q2.1 q3)).1
        omega
      refine ⟨yF_tr j1 (yF_tr (by rw [q4]; exact yF_up (by omega)) (yF_up (by omega))), yCS_of j2 (fun j hj => by rw [fz, f7 j (by omega)]), by rw [fz, f7 34 (by decide)]; exact j3, ?_, by rw [fz]; omega, fun _ => ⟨by rw [fz, e20]; omega, by rw [fz, f7 11 (by decide)]; exact x2, fun b b1 b2 => ?_, fun k hk => by rw [oz 311 (by decide) (by decide), oz 312 (by decide) (by decide)]; exact x4 k hk⟩⟩
      · rw [eC, oz 301 (by decide) (by decide)]
        omega
      · exact yB_congr (Nat.le_refl _) (fun i _ => ⟨by rw [oz 318 (by decide) (by decide)], by rw [oz 319 (by decide) (by decide)]⟩) ⟨by rw [oz 313 (by decide) (by decide)], by rw [oz 314 (by decide) (by decide)], by rw [oz 315 (by decide) (by decide)], by rw [oz 316 (by decide) (by decide)], by rw [oz 317 (by decide) (by decide)]⟩ (x3 b b1 b2)
    · rw [qUp_ne (by omega), f7 11 (by decide)]
      have t1 := hN1.2 g1
      have t2 := hN2.1.2.2.1
      have t3 := hN3.1.2.2.1
      have t5 := hN5.1.2.2.1
      have t7 := q2.1.2.2.1
      rw [qUp_ne (by omega)] at t5 t7
      omega
end
