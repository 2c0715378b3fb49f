/-! ===== one that is told: settings, laws, all ===== -/
theorem qSwt_c {J : Nat → Prop} {x v : Int32} {tg df : Nat} {l : List Nat} (h1 : x = v → J tg) (h2 : qSwt J x (v + 1) l df) : qSwt J x v (tg :: l) df := by
  unfold qSwt
  by_cases h : x = v
  · rw [if_pos h]; exact h1 h
  · rw [if_neg h]; exact h2
theorem qSwt_d {J : Nat → Prop} {x v : Int32} {df : Nat} (h : J df) : qSwt J x v [] df := h
section
variable {l : Launch} {G : qG} {d : Nat} {I I0 : qMI} {L : qML} {R : qMR} {s c br th se : Nat}
theorem yPS_19 (h19 : (I0 292 19).toInt = s) {J : qMI} (hJ : yPS s I0 J c br th se) : (J 292 19).toInt = s := by rw [hJ.1.2.2.2.2.2 19 (by decide) (by decide) (by decide) (by decide) (by decide) (by decide) (by decide) (by decide) (by decide) (by decide)]; exact h19
theorem yDeflt (hR : wkR R) (hs : s = 0 ∨ s = 1) (h19 : (I0 292 19).toInt = s) (hkd : ∀ i, i < 403 → 0 ≤ (I0 295 i).toInt) (h : yPS s I0 I c br th se) (f0 : I 292 13 = 0) : wkB l G (d + 6 + 1) n_X9_tellOne (wkPV R (fun I' _ => yP1 s I0 I I')) 374 [.ref 292, wkU] [] I L R := by
  have hk := h.2.1.1
  have e295 : I 295 = I0 295 := h.1.1 295 (by decide) (by decide)
  have kd : 0 ≤ (I 295 (I 292 11).toNatClampNeg).toInt := by rw [e295]; exact hkd _ (by rw [tcn]; have := hk.1; omega)
  have fin : ∀ (a : Int32) (I1 : qMI), yPS s I0 I1 c br th se → (I1 292 13 = 0 → 0 ≤ a.toInt ∧ a.toInt ≤ 4) → I1 292 11 = I 292 11 → wkB l G (d + 6 + 1) n_X9_tellOne (wkPV R (fun I' _ => yP1 s I0 I I')) 410 [.ref 292, .int a] [] I1 L R := by
    intro a I1 h1 ha e11
    refine w_X9_tellOne_410 (fun q => ?_) (fun q => w_X9_tellOne_417 ⟨rfl, rfl, rfl, c, br, th, se, h1, fun z => absurd (by rw [z]; decide) q⟩)
    have g1 := yf0 h1.2.1.1 q
    obtain ⟨a0, a4⟩ := ha g1
    refine w_X9_tellOne_418 (yGoes (d := d + 4) hR h1.2.1.1) (fun I2 L2 hq => ?_)
    obtain ⟨rfl, hN⟩ := hq
    have h2 := yPS_s h1 hN.1
    have e19 := yPS_19 h19 h2
    have eat : (5 * I2 292 19 + a).toInt = 5 * s + a.toInt := by
      have e5 : ((5 : Int32) * I2 292 19).toInt = 5 * s := by rw [i_mul (by rw [show (5 : Int32).toInt = 5 from rfl]; omega) (by rw [show (5 : Int32).toInt = 5 from rfl]; omega), show (5 : Int32).toInt = 5 from rfl, e19]
      rw [i_add (by omega) (by omega), e5]
    obtain ⟨y1, y2, y3, y4⟩ := h1.2.2.2.2.2 g1
    have tk := h1.2.1.1.1.2
    have hbr := h1.2.2.1
    have p2 := h2.2.2.1
    have e34 : I2 292 34 = I1 292 34 := hN.1.1.2 34 (by decide) (by decide) (by decide) (by decide) (by decide)
    refine w_X9_tellOne_422 (yTellLaw (d := d) (sb := 420 * s) (bb := 130 * s) (at_ := 5 * s + a.toInt.toNat) hR (by omega) h2.2.1 p2.1 (by omega) (fun z => by have := hN.2 z; omega) (vin (by omega) (by omega)) (by rw [tcn]; omega)) (fun I3 L3 hq => wkB_le (vs := [.ref 292, wkU]) ⟨Or.inr rfl, Or.inl rfl, trivial⟩ (w_X9_tellOne_427 ⟨rfl, rfl, rfl, ?_⟩))
    obtain ⟨-, c3, br3, z1, ⟨z2, z3, z4⟩, z5, z6, z7⟩ := hq
    rcases z7 with ⟨g3, zL⟩ | ⟨g3, ⟨J, zL, eJ⟩, z8, z9, z10⟩
    · refine ⟨c3, br3, th, se, ⟨yF_tr h2.1 (yF_l (by omega) (by omega) zL), z1, ⟨z2, by omega, by omega⟩, ?_, ?_, fun z => absurd z g3⟩, fun z => absurd z g3⟩
      · rw [zL.1 301 (by decide) (by decide), zL.1 304 (by decide) (by decide)]; exact h2.2.2.2.1
      · rw [zL.2.2.2 20 (by decide) (by decide) (by decide) (by decide) (by decide) (by decide) (by decide) (by decide) (by decide)]; exact h2.2.2.2.2.1
    · have g2 : I2 292 13 = 0 := yM_f0 z5 g3
      obtain ⟨x1, x2, x3, x4⟩ := h2.2.2.2.2.2 g2
      have oJ : ∀ k, k ≠ 311 → k ≠ 312 → I3 k = J k := fun k a b => by rw [eJ]; exact funext fun i => by rw [qUp_ne (fun q => b q.1), qUp_ne (fun q => a q.1)]
      have l1 : ∀ i, I3 311 i = if i = 5 * s + a.toInt.toNat then I2 292 34 else I2 311 i := fun i => by
        rw [eJ, qUp_ne (by omega), qUp_at]
        by_cases hi : i = 5 * s + a.toInt.toNat
        · rw [if_pos ⟨rfl, hi⟩, if_pos hi]
        · rw [if_neg (fun q => hi q.2), if_neg hi, zL.1 311 (by decide) (by decide)]
      have l2 : ∀ i, I3 312 i = if i = 5 * s + a.toInt.toNat then I3 292 34 else I2 312 i := fun i => by
        by_cases hi : i = 5 * s + a.toInt.toNat
        · rw [if_pos hi]
          have : I3 312 i = (qUp (qUp J 311 (5 * s + a.toInt.toNat) (I2 292 34)) 312 (5 * s + a.toInt.toNat) (I3 292 34)) 312 i := congrFun (congrFun eJ 312) i
          rw [this, qUp_at, if_pos ⟨rfl, hi⟩]
        · rw [if_neg hi]
          have : I3 312 i = (qUp (qUp J 311 (5 * s + a.toInt.toNat) (I2 292 34)) 312 (5 * s + a.toInt.toNat) (I3 292 34)) 312 i := congrFun (congrFun eJ 312) i
          rw [this, qUp_ne (fun q => hi q.2), qUp_ne (by omega), zL.1 312 (by decide) (by decide)]
      refine ⟨c3, br3, th, se, ⟨yF_tr h2.1 (yF_tr (yF_l (by omega) (by omega) zL) (by rw [eJ]; exact yF_tr (yF_up (by omega)) (yF_up (by omega)))), z1, ⟨z2, by omega, by omega⟩, ?_, ?_, fun _ => ⟨?_, by omega, fun b b1 b2 => ?_, fun k hk => ?_⟩⟩, fun _ => ?_⟩
      · rw [oJ 301 (by decide) (by decide), oJ 304 (by decide) (by decide), zL.1 301 (by decide) (by decide), zL.1 304 (by decide) (by decide)]; exact h2.2.2.2.1
      · rw [oJ 292 (by decide) (by decide), zL.2.2.2 20 (by decide) (by decide) (by decide) (by decide) (by decide) (by decide) (by decide) (by decide) (by decide)]; exact h2.2.2.2.2.1
      · rw [oJ 292 (by decide) (by decide), zL.2.2.2 20 (by decide) (by decide) (by decide) (by decide) (by decide) (by decide) (by decide) (by decide) (by decide)]; exact x1
      · by_cases hb : b < br
        · refine yB_congr (I := I2) (C := 420 * s + c) (by omega) (fun i hi => ?_) ?_ (x3 b b1 hb)
          · rw [oJ 318 (by decide) (by decide), oJ 319 (by decide) (by decide)]
            exact zL.2.2.1 i (Or.inl hi)
          · rw [oJ 313 (by decide) (by decide), oJ 314 (by decide) (by decide), oJ 315 (by decide) (by decide), oJ 316 (by decide) (by decide), oJ 317 (by decide) (by decide)]
            exact zL.2.1 b (Or.inl hb)
        · exact z10 b (by omega) b2
      · rw [l1, l2]
        by_cases hi : 5 * s + k = 5 * s + a.toInt.toNat
        · rw [if_pos hi, if_pos hi]
          exact Or.inr ⟨by omega, by omega⟩
        · rw [if_neg hi, if_neg hi]
          rcases x4 k hk with q | ⟨q, q'⟩
          · exact Or.inl q
          · exact Or.inr ⟨q, by omega⟩
      · have t2 := hN.1.2.2.1
        rw [e11] at t2
        omega
  have bad : wkB l G (d + 6 + 1) n_X9_tellOne (wkPV R (fun I' _ => yP1 s I0 I I')) 405 [.ref 292, .int (I 295 (I 292 11).toNatClampNeg - 22)] [] I L R := w_X9_tellOne_405 (yFail (d := d + 5) hR hk (by decide) (by decide)) (fun I1 L1 hq => by
    obtain ⟨rfl, q1, q2, q3⟩ := hq
    exact fin _ I1 (yPS_s h q1) (fun z => absurd z q2) q3)
  refine w_X9_tellOne_374 hR (yOk_t hk) (fun _ => bad) (fun q1 => w_X9_tellOne_391 hR (yOk_t hk) (fun q2 => fin _ I h (fun _ => ?_) rfl) (fun _ => bad))
  have a1 : ¬ _ := fun q => q1 (i_lt.mpr q)
  have a2 := i_le.mp q2
  rw [show (26 : Int32).toInt = 26 from rfl] at a2
  have e22 := i_sub (x := I 295 (I 292 11).toNatClampNeg) (y := 22) (by rw [show (22 : Int32).toInt = 22 from rfl]; omega) (by rw [show (22 : Int32).toInt = 22 from rfl]; omega)
  rw [show (22 : Int32).toInt = 22 from rfl] at e22
  rw [show (0 : Int32).toInt = 0 from rfl] at a1
  omega
theorem yTellOne (hR : wkR R) (hs : s = 0 ∨ s = 1) (h19 : (I0 292 19).toInt = s) (hkd : ∀ i, i < 403 → 0 ≤ (I0 295 i).toInt) (h : yPS s I0 I c br th se) (f0 : I 292 13 = 0) : wkV l G (d + 7) n_X9_tellOne [.ref 292] I L R (fun I' _ => yP1 s I0 I I') := by
  have hk := h.2.1.1
  have v1 : vp_in (I 292 19) 2 := by have := yPS_19 h19 h; exact vin (by omega) (by omega)
  have sett : ∀ (k : Nat) (y : Int32) (I1 : qMI) (i : Nat), (302 ≤ k ∧ k ≤ 310 ∧ k ≠ 304) → yS I I1 → (I1 292 13 = 0 → (I1 292 11).toInt = (I 292 11).toInt + 3) → yP1 s I0 I (qUp I1 k i y) := fun k y I1 i hk' q1 q2 => ⟨c, br, th, se, yPS_w hk' (yPS_s h q1), fun z => by
    rw [qUp_ne (by omega)] at z ⊢
    have := q2 z
    omega⟩
  have dflt := yDeflt (l := l) (G := G) (d := d) (L := L) hR hs h19 hkd h f0
  refine wkC_of 1 (by decide) (Nat.le_of_ble_eq_true rfl) (w_X9_tellOne_0 hR (yOk_t hk) ?_)
  refine qSwt_c (fun _ => yThing (d := d + 2) hR hs h19 h f0) (qSwt_c (fun _ => ySeat (d := d + 2) hR hs h19 h f0) (qSwt_c (fun _ => dflt) (qSwt_c (fun _ => dflt) (qSwt_c (fun _ => dflt) (qSwt_c (fun _ => dflt) (qSwt_c (fun _ => dflt) (qSwt_c (fun _ => ?_) (qSwt_c (fun _ => ?_) (qSwt_c (fun _ => ?_) (qSwt_c (fun _ => ?_) (qSwt_d dflt)))))))))))
  · exact w_X9_tellOne_297 hR (yTold (d := d + 2) hR hk) (fun y I1 L1 hq => by obtain ⟨rfl, q1, q2⟩ := hq; exact w_X9_tellOne_312 v1 (w_X9_tellOne_427 ⟨rfl, rfl, rfl, sett 307 _ _ _ (by omega) q1 q2⟩))
  · exact w_X9_tellOne_316 hR (yTold (d := d + 2) hR hk) (fun y I1 L1 hq => by obtain ⟨rfl, q1, q2⟩ := hq; exact w_X9_tellOne_331 v1 (w_X9_tellOne_427 ⟨rfl, rfl, rfl, sett 308 _ _ _ (by omega) q1 q2⟩))
  · exact w_X9_tellOne_335 hR (yTold (d := d + 2) hR hk) (fun y I1 L1 hq => by obtain ⟨rfl, q1, q2⟩ := hq; exact w_X9_tellOne_350 v1 (w_X9_tellOne_427 ⟨rfl, rfl, rfl, sett 309 _ _ _ (by omega) q1 q2⟩))
  · exact w_X9_tellOne_354 hR (yTold (d := d + 2) hR hk) (fun y I1 L1 hq => by obtain ⟨rfl, q1, q2⟩ := hq; exact w_X9_tellOne_370 v1 (w_X9_tellOne_427 ⟨rfl, rfl, rfl, sett 310 _ _ _ (by omega) q1 q2⟩))
end
