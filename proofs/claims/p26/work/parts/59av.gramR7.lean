/-! ===== the reference's laws and settings told, exact ===== -/
theorem rK_l : ∀ a ∈ pVk, (22 ≤ (rK a).toInt ∧ (rK a).toInt ≤ 26) ↔ (130 ≤ a ∧ a < 135) := by decide +kernel
theorem rK_k : rK 128 = 20 ∧ rK 129 = 21 ∧ rK 135 = 27 ∧ rK 136 = 28 ∧ rK 137 = 29 ∧ rK 138 = 30 := by decide +kernel
abbrev rDn (x : Int32) : Prop := x ≠ 20 ∧ x ≠ 21 ∧ x ≠ 27 ∧ x ≠ 28 ∧ x ≠ 29 ∧ x ≠ 30
theorem rK_d : ∀ a ∈ pVk, rDn (rK a) → ¬ (130 ≤ a ∧ a < 135) → ¬ (128 ≤ a ∧ a ≤ 138) := by decide +kernel
section
variable {K S : Nat → Int32} {N : Nat → Int64}
theorem zSet_f {k : Int32} {z : pZ} (h : pf z ≠ 0) : zSet K S N k z = z := by
  unfold zSet
  rw [zInt_f h, zInt_f h, zInt_f h, zInt_f h, zFail_f h]
  repeat' split
  all_goals rfl
theorem zTell_law {z : pZ} (h1 : 130 ≤ K (pt z)) (h2 : K (pt z) < 135) : zTell K S N z = zMust K S 59 (zLaw K S (zTake S true z)) := by
  have n1 : ¬ K (pt z) = 128 := fun q => by rw [q] at h1; exact absurd h1 (by decide)
  have n2 : ¬ K (pt z) = 129 := fun q => by rw [q] at h1; exact absurd h1 (by decide)
  rw [zTell_o n1 n2, if_pos ⟨h1, h2⟩, decide_eq_true (show 128 ≤ K (pt z) ∧ K (pt z) ≤ 138 from ⟨i_le.mpr ?_, i_le.mpr ?_⟩)]
  · have := i_le.mp h1
    rw [show (130 : Int32).toInt = 130 from rfl] at this
    rw [show (128 : Int32).toInt = 128 from rfl]
    omega
  · have := i_lt.mp h2
    rw [show (135 : Int32).toInt = 135 from rfl] at this
    rw [show (138 : Int32).toInt = 138 from rfl]
    omega
theorem zTell_bad {z : pZ} (h : pf z = 0) (hm : K (pt z) ∈ pVk) (hd : rDn (rK (K (pt z)))) (hn : ¬ (130 ≤ K (pt z) ∧ K (pt z) < 135)) : zTell K S N z = zFail S 1 z := by
  have hr := rK_d _ hm hd hn
  have n1 : ¬ K (pt z) = 128 := fun q => by rw [q] at hr; exact absurd (by decide) hr
  have n2 : ¬ K (pt z) = 129 := fun q => by rw [q] at hr; exact absurd (by decide) hr
  have e : zTake S false z = zFail S 1 z := by
    unfold zTake zFail
    rw [if_pos h, if_pos h, if_neg (by decide)]
  have hF : pf (zFail S 1 z) ≠ 0 := zFail_n (by decide)
  rw [zTell_o n1 n2, if_neg hn, decide_eq_false hr, e, zSet_f hF, zMust_f hF]
theorem zTell_set {z : pZ} {a b : Int32} (h : (K (pt z) = 135 ∧ a = 1 ∧ b = 99) ∨ (K (pt z) = 136 ∧ a = 0 ∧ b = 100) ∨ (K (pt z) = 137 ∧ a = 0 ∧ b = 23) ∨ (K (pt z) = 138 ∧ a = 0 ∧ b = 9999)) : zTell K S N z = zMust K S 59 (zInt K S N a b (zTake S true z)) := by
  rcases h with ⟨h, rfl, rfl⟩ | ⟨h, rfl, rfl⟩ | ⟨h, rfl, rfl⟩ | ⟨h, rfl, rfl⟩
  · rw [zTell_o (by rw [h]; decide) (by rw [h]; decide), if_neg (by rw [h]; decide), decide_eq_true (by rw [h]; decide), h, zSet, if_pos rfl]
  · rw [zTell_o (by rw [h]; decide) (by rw [h]; decide), if_neg (by rw [h]; decide), decide_eq_true (by rw [h]; decide), h, zSet, if_neg (by decide), if_pos rfl]
  · rw [zTell_o (by rw [h]; decide) (by rw [h]; decide), if_neg (by rw [h]; decide), decide_eq_true (by rw [h]; decide), h, zSet, if_neg (by decide), if_neg (by decide), if_pos rfl]
  · rw [zTell_o (by rw [h]; decide) (by rw [h]; decide), if_neg (by rw [h]; decide), decide_eq_true (by rw [h]; decide), h, zSet, if_neg (by decide), if_neg (by decide), if_neg (by decide), if_pos rfl]
end
theorem qSwt_n {J : Nat → Prop} {x v : Int32} {tg df : Nat} {l : List Nat} (h1 : x = v → J tg) (h2 : x ≠ v → qSwt J x (v + 1) l df) : qSwt J x v (tg :: l) df := by
  unfold qSwt
  by_cases h : x = v
  · rw [if_pos h]; exact h1 h
  · rw [if_neg h]; exact h2 h
section
variable {l : Launch} {G : qG} {d : Nat} {I I0 : qMI} {L L0 : qML} {R : qMR} {s c br th se : Nat} {T : Nat} {K S : Nat → Int32} {N : Nat → Int64} {z : pZ}
theorem rDeflt (hR : wkR R) (hs : s = 0 ∨ s = 1) (h19 : (I0 292 19).toInt = s) (hQ : rQs T K S N s I0 L0 I L z c br th se) (z0 : pf z = 0) (hno : rDn (rK (K (pt z)))) : wkB l G (d + 6 + 1) n_X9_tellOne (wkPV R (fun I' L' => rP1 T K S N s I0 L0 I (zTell K S N z) I' L')) 374 [.ref 292, wkU] [] I L R := by
  obtain ⟨h, g, hL0, hZ⟩ := hQ
  have f0 : I 292 13 = 0 := by rw [g.2.1]; exact z0
  obtain ⟨⟨zt, zs⟩, hnm⟩ := hZ z0
  have hk := h.2.1.1
  obtain ⟨a1', a2', a3', a4', a5'⟩ := rAt g.w z0
  have kz : I 295 (I 292 11).toNatClampNeg = rK (K (pt z)) := by rw [a1']; exact a4'
  have kd : 0 ≤ (I 295 (I 292 11).toNatClampNeg).toInt := by rw [kz]; exact (rK_b _ a3').1
  have fin : ∀ (a : Int32) (I1 : qMI) (z1 : pZ), yPS s I0 I1 c br th se → rG T K S N I1 L z1 → (pf z1 ≠ 0 → zTell K S N z = z1) → (pf z1 = 0 → z1 = z ∧ 130 ≤ K (pt z) ∧ K (pt z) < 135) → I1 292 20 = I 292 20 → (I1 292 13 = 0 → 0 ≤ a.toInt ∧ a.toInt ≤ 4) → I1 292 11 = I 292 11 → wkB l G (d + 6 + 1) n_X9_tellOne (wkPV R (fun I' L' => rP1 T K S N s I0 L0 I (zTell K S N z) I' L')) 410 [.ref 292, .int a] [] I1 L R := by
    intro a I1 z1 h1 g1z hzf hzo e20 ha e11
    refine w_X9_tellOne_410 (fun q => ?_) (fun q => w_X9_tellOne_417 ⟨rfl, rfl, rfl, c, br, th, se, ⟨h1, by rw [hzf (fun x => q (by rw [g1z.2.1, x]; decide))]; exact g1z, hL0, fun x => absurd x (by rw [hzf (fun x => q (by rw [g1z.2.1, x]; decide))]; exact fun x => q (by rw [g1z.2.1, x]; decide))⟩, fun x => absurd (by rw [x]; decide) q⟩)
    have g1 := yf0 h1.2.1.1 q
    obtain ⟨ez1, kl1, kl2⟩ := hzo (by rw [← g1z.2.1]; exact g1)
    rw [ez1] at g1z
    clear hzf hzo
    rw [zTell_law kl1 kl2]
    obtain ⟨a0, a4⟩ := ha g1
    refine w_X9_tellOne_418 (rGoes (d := d + 4) hR h1.2.1.1 g1z.w (fun _ x => by rw [x] at kl1; exact absurd kl1 (by decide))) (fun I2 L2 hq => ?_)
    obtain ⟨rfl, hN, g2z⟩ := hq
    have h2 := yPS_s h1 hN.1
    have e19 := yPS_19 h19 h2
    have eat : (5 * I2 292 19 + a).toInt = 5 * s + a.toInt := by
      have e5 : ((5 : Int32) * I2 292 19).toInt = 5 * s := by rw [i_mul (by rw [show (5 : Int32).toInt = 5 from rfl]; omega) (by rw [show (5 : Int32).toInt = 5 from rfl]; omega), show (5 : Int32).toInt = 5 from rfl, e19]
      rw [i_add (by omega) (by omega), e5]
    obtain ⟨y1, y2, y3, y4⟩ := h1.2.2.2.2.2 g1
    have tk := h1.2.1.1.1.2
    have hbr := h1.2.2.1
    have p2 := h2.2.2.1
    have e34 : I2 292 34 = I1 292 34 := hN.1.1.2 34 (by decide) (by decide) (by decide) (by decide) (by decide)
    refine w_X9_tellOne_422 (rTellLaw (d := d) (sb := 420 * s) (bb := 130 * s) (at_ := 5 * s + a.toInt.toNat) hR (by omega) h2.2.1 g2z p2.1 (by omega) (fun z => by have := hN.2 z; omega) (vin (by omega) (by omega)) (by rw [tcn]; omega)) (fun I3 L3 hq => wkB_le (vs := [.ref 292, wkU]) ⟨Or.inr rfl, Or.inl rfl, trivial⟩ (w_X9_tellOne_427 ⟨rfl, rfl, rfl, ?_⟩))
    obtain ⟨rfl, gz, c3, br3, z1, ⟨z2, z3, z4⟩, z5, z6, z7⟩ := hq
    have e20' : I2 292 20 = I 292 20 := (hN.1.1.2 20 (by decide) (by decide) (by decide) (by decide) (by decide)).trans e20
    have cnt : ∀ (I3' : qMI), I3' 292 20 = I2 292 20 → (th = (zMust K S 59 (zLaw K S (zTake S true z))).2.2.2.1 ∧ se = (zMust K S 59 (zLaw K S (zTake S true z))).2.2.2.2) ∧ rNm I3' L3 (zMust K S 59 (zLaw K S (zTake S true z))).2.2.1 := fun I3' e => by
      rw [zMust_2, zLaw_2, zTake_2]
      exact ⟨⟨zt, zs⟩, rNm_s hnm (e.trans e20')⟩
    rcases z7 with ⟨g3, zL⟩ | ⟨g3, ⟨J, zL, eJ⟩, z8, z9, z10⟩
    · refine ⟨c3, br3, th, se, ⟨⟨yF_tr h2.1 (yF_l (by omega) (by omega) zL), z1, ⟨z2, by omega, by omega⟩, ?_, ?_, fun x => absurd x g3⟩, gz, hL0, fun x => absurd (gz.2.1.trans x) g3⟩, fun x => absurd x g3⟩
      · rw [zL.1 301 (by decide) (by decide), zL.1 304 (by decide) (by decide)]; exact h2.2.2.2.1
      · rw [zL.2.2.2 20 (by decide) (by decide) (by decide) (by decide) (by decide) (by decide) (by decide) (by decide) (by decide)]; exact h2.2.2.2.2.1
    · have g2 : I2 292 13 = 0 := yM_f0 z5 g3
      obtain ⟨x1, x2, x3, x4⟩ := h2.2.2.2.2.2 g2
      have oJ : ∀ k, k ≠ 311 → k ≠ 312 → I3 k = J k := fun k a b => by rw [eJ]; exact funext fun i => by rw [qUp_ne (fun q => b q.1), qUp_ne (fun q => a q.1)]
      have l1 : ∀ i, I3 311 i = if i = 5 * s + a.toInt.toNat then I2 292 34 else I2 311 i := fun i => by
        rw [eJ, qUp_ne (by omega), qUp_at]
        by_cases hi : i = 5 * s + a.toInt.toNat
        · rw [if_pos ⟨rfl, hi⟩, if_pos hi]
        · rw [if_neg (fun q => hi q.2), if_neg hi, zL.1 311 (by decide) (by decide)]
      have l2 : ∀ i, I3 312 i = if i = 5 * s + a.toInt.toNat then I3 292 34 else I2 312 i := fun i => by
        by_cases hi : i = 5 * s + a.toInt.toNat
        · rw [if_pos hi]
          have : I3 312 i = (qUp (qUp J 311 (5 * s + a.toInt.toNat) (I2 292 34)) 312 (5 * s + a.toInt.toNat) (I3 292 34)) 312 i := congrFun (congrFun eJ 312) i
          rw [this, qUp_at, if_pos ⟨rfl, hi⟩]
        · rw [if_neg hi]
          have : I3 312 i = (qUp (qUp J 311 (5 * s + a.toInt.toNat) (I2 292 34)) 312 (5 * s + a.toInt.toNat) (I3 292 34)) 312 i := congrFun (congrFun eJ 312) i
          rw [this, qUp_ne (fun q => hi q.2), qUp_ne (by omega), zL.1 312 (by decide) (by decide)]
      refine ⟨c3, br3, th, se, ⟨⟨yF_tr h2.1 (yF_tr (yF_l (by omega) (by omega) zL) (by rw [eJ]; exact yF_tr (yF_up (by omega)) (yF_up (by omega)))), z1, ⟨z2, by omega, by omega⟩, ?_, ?_, fun _ => ⟨?_, by omega, fun b b1 b2 => ?_, fun k hk => ?_⟩⟩, gz, hL0, fun _ => cnt I3 ?_⟩, fun _ => ?_⟩
      · rw [oJ 301 (by decide) (by decide), oJ 304 (by decide) (by decide), zL.1 301 (by decide) (by decide), zL.1 304 (by decide) (by decide)]; exact h2.2.2.2.1
      · rw [oJ 292 (by decide) (by decide), zL.2.2.2 20 (by decide) (by decide) (by decide) (by decide) (by decide) (by decide) (by decide) (by decide) (by decide)]; exact h2.2.2.2.2.1
      · rw [oJ 292 (by decide) (by decide), zL.2.2.2 20 (by decide) (by decide) (by decide) (by decide) (by decide) (by decide) (by decide) (by decide) (by decide)]; exact x1
      · by_cases hb : b < br
        · refine yB_congr (I := I2) (C := 420 * s + c) (by omega) (fun i hi => ?_) ?_ (x3 b b1 hb)
          · rw [oJ 318 (by decide) (by decide), oJ 319 (by decide) (by decide)]
            exact zL.2.2.1 i (Or.inl hi)
          · rw [oJ 313 (by decide) (by decide), oJ 314 (by decide) (by decide), oJ 315 (by decide) (by decide), oJ 316 (by decide) (by decide), oJ 317 (by decide) (by decide)]
            exact zL.2.1 b (Or.inl hb)
        · exact z10 b (by omega) b2
      · rw [l1, l2]
        by_cases hi : 5 * s + k = 5 * s + a.toInt.toNat
        · rw [if_pos hi, if_pos hi]
          exact Or.inr ⟨by omega, by omega⟩
        · rw [if_neg hi, if_neg hi]
          rcases x4 k hk with q | ⟨q, q'⟩
          · exact Or.inl q
          · exact Or.inr ⟨q, by omega⟩
      · rw [oJ 292 (by decide) (by decide), zL.2.2.2 20 (by decide) (by decide) (by decide) (by decide) (by decide) (by decide) (by decide) (by decide) (by decide)]
      · have t2 := hN.1.2.2.1
        rw [e11] at t2
        omega
  have bad : ¬ (130 ≤ K (pt z) ∧ K (pt z) < 135) → wkB l G (d + 6 + 1) n_X9_tellOne (wkPV R (fun I' L' => rP1 T K S N s I0 L0 I (zTell K S N z) I' L')) 405 [.ref 292, .int (I 295 (I 292 11).toNatClampNeg - 22)] [] I L R := fun kn => w_X9_tellOne_405 (rFail (d := d + 5) hR hk g.w (by decide) (by decide)) (fun I1 L1 hq => by
    obtain ⟨rfl, q1, q2, q3, q4⟩ := hq
    exact fin _ I1 _ (yPS_s h q1) q4 (fun _ => zTell_bad z0 a3' hno kn) (fun x => absurd x (zFail_n (by decide))) (q1.1.2 20 (by decide) (by decide) (by decide) (by decide) (by decide)) (fun z => absurd z q2) q3)
  refine w_X9_tellOne_374 hR (yOk_t hk) (fun q => bad (fun x => ?_)) (fun q1 => w_X9_tellOne_391 hR (yOk_t hk) (fun q2 => fin _ I z h g (fun x => absurd z0 x) (fun _ => ⟨rfl, (rK_l _ a3').mp ?_⟩) rfl (fun _ => ?_) rfl) (fun q => bad (fun x => ?_)))
  · have b := (rK_l _ a3').mpr x
    have b' := i_lt.mp q
    have e22 := i_sub (x := I 295 (I 292 11).toNatClampNeg) (y := 22) (by rw [show (22 : Int32).toInt = 22 from rfl, kz]; omega) (by rw [show (22 : Int32).toInt = 22 from rfl, kz]; omega)
    rw [show (22 : Int32).toInt = 22 from rfl] at e22
    rw [e22, kz, show (0 : Int32).toInt = 0 from rfl] at b'
    omega
  · have a1 : ¬ _ := fun q => q1 (i_lt.mpr q)
    have a2 := i_le.mp q2
    rw [show (26 : Int32).toInt = 26 from rfl] at a2
    have e22 := i_sub (x := I 295 (I 292 11).toNatClampNeg) (y := 22) (by rw [show (22 : Int32).toInt = 22 from rfl]; omega) (by rw [show (22 : Int32).toInt = 22 from rfl]; omega)
    rw [show (22 : Int32).toInt = 22 from rfl] at e22
    rw [show (0 : Int32).toInt = 0 from rfl] at a1
    rw [← kz]
    omega
  · have a1 : ¬ _ := fun q => q1 (i_lt.mpr q)
    have a2 := i_le.mp q2
    rw [show (26 : Int32).toInt = 26 from rfl] at a2
    have e22 := i_sub (x := I 295 (I 292 11).toNatClampNeg) (y := 22) (by rw [show (22 : Int32).toInt = 22 from rfl]; omega) (by rw [show (22 : Int32).toInt = 22 from rfl]; omega)
    rw [show (22 : Int32).toInt = 22 from rfl] at e22
    rw [show (0 : Int32).toInt = 0 from rfl] at a1
    omega
  · have b := (rK_l _ a3').mpr x
    exact q (i_le.mpr (by rw [kz, show (26 : Int32).toInt = 26 from rfl]; exact b.2))
theorem rTellOne (hR : wkR R) (hs : s = 0 ∨ s = 1) (h19 : (I0 292 19).toInt = s) (hQ : rQs T K S N s I0 L0 I L z c br th se) (z0 : pf z = 0) (hE : K (pt z) ≠ 0) : wkV l G (d + 7) n_X9_tellOne [.ref 292] I L R (fun I' L' => rP1 T K S N s I0 L0 I (zTell K S N z) I' L') := by
  obtain ⟨h, g, hL0, hZ⟩ := id hQ
  have hk := h.2.1.1
  obtain ⟨⟨zt, zs⟩, hnm⟩ := hZ z0
  obtain ⟨a1, a2, a3, a4, a5⟩ := rAt g.w z0
  have kz : I 295 (I 292 11).toNatClampNeg = rK (K (pt z)) := by rw [a1]; exact a4
  have v1 : vp_in (I 292 19) 2 := by have := yPS_19 h19 h; exact vin (by omega) (by omega)
  have sett : ∀ (k : Nat) (a b y : Int32) (I1 : qMI) (L1 : qML) (i : Nat), (302 ≤ k ∧ k ≤ 310 ∧ k ≠ 304) → yS I I1 → (I1 292 13 = 0 → (I1 292 11).toInt = (I 292 11).toInt + 3) → L1 = L → rG T K S N I1 L1 (zMust K S 59 (zInt K S N a b (zTake S true z))) → zTell K S N z = zMust K S 59 (zInt K S N a b (zTake S true z)) → rP1 T K S N s I0 L0 I (zTell K S N z) (qUp I1 k i y) L1 := fun k a b y I1 L1 i hk' q1 q2 eL gz ez => ⟨c, br, th, se, ⟨yPS_w hk' (yPS_s h q1), by rw [ez]; exact rG_c (by omega) gz, by rw [eL]; exact hL0, fun _ => by
      rw [ez, zMust_2, zInt_3, zTake_2]
      refine ⟨⟨zt, zs⟩, ?_⟩
      rw [eL]
      exact rNm_s hnm (by rw [qUp_ne (by omega)]; exact q1.1.2 20 (by decide) (by decide) (by decide) (by decide) (by decide))⟩, fun x => by
    rw [qUp_ne (by omega)] at x ⊢
    have := q2 x
    omega⟩
  have dflt : rDn (rK (K (pt z))) → wkB l G (d + 6 + 1) n_X9_tellOne (wkPV R (fun I' L' => rP1 T K S N s I0 L0 I (zTell K S N z) I' L')) 374 [.ref 292, wkU] [] I L R := fun x => rDeflt (l := l) (G := G) (d := d) (L := L) hR hs h19 hQ z0 x
  have inj : ∀ k ∈ pVk, rK (K (pt z)) = rK k → K (pt z) = k := fun k hk q => rK_inj _ a3 _ hk q
  refine wkC_of 1 (by decide) (Nat.le_of_ble_eq_true rfl) (w_X9_tellOne_0 hR (yOk_t hk) ?_)
  rw [kz]
  refine qSwt_n (fun q => rThing (d := d + 2) hR hs h19 hQ z0 (inj 128 (by decide) (q.trans rK_k.1.symm))) (fun n20 => qSwt_n (fun q => rSeat (d := d + 2) hR hs h19 hQ z0 (inj 129 (by decide) (q.trans rK_k.2.1.symm))) (fun n21 => ?_))
  refine qSwt_n (fun q => dflt (by rw [q]; decide)) (fun _ => qSwt_n (fun q => dflt (by rw [q]; decide)) (fun _ => qSwt_n (fun q => dflt (by rw [q]; decide)) (fun _ => qSwt_n (fun q => dflt (by rw [q]; decide)) (fun _ => qSwt_n (fun q => dflt (by rw [q]; decide)) (fun _ => ?_)))))
  refine qSwt_n (fun q => ?_) (fun n27 => qSwt_n (fun q => ?_) (fun n28 => qSwt_n (fun q => ?_) (fun n29 => qSwt_n (fun q => ?_) (fun n30 => qSwt_d (dflt ⟨n20, n21, n27, n28, n29, n30⟩)))))
  · have kk := inj 135 (by decide) (q.trans rK_k.2.2.1.symm)
    exact w_X9_tellOne_297 hR (rTold (d := d + 2) hR hk g (fun _ => hE)) (fun y I1 L1 hq => by obtain ⟨e, q1, q2, q3⟩ := hq; exact w_X9_tellOne_312 v1 (w_X9_tellOne_427 ⟨rfl, rfl, rfl, sett 307 _ _ _ _ _ _ (by omega) q1 q2 e q3 (zTell_set (Or.inl ⟨kk, rfl, rfl⟩))⟩))
  · have kk := inj 136 (by decide) (q.trans rK_k.2.2.2.1.symm)
    exact w_X9_tellOne_316 hR (rTold (d := d + 2) hR hk g (fun _ => hE)) (fun y I1 L1 hq => by obtain ⟨e, q1, q2, q3⟩ := hq; exact w_X9_tellOne_331 v1 (w_X9_tellOne_427 ⟨rfl, rfl, rfl, sett 308 _ _ _ _ _ _ (by omega) q1 q2 e q3 (zTell_set (Or.inr (Or.inl ⟨kk, rfl, rfl⟩)))⟩))
  · have kk := inj 137 (by decide) (q.trans rK_k.2.2.2.2.1.symm)
    exact w_X9_tellOne_335 hR (rTold (d := d + 2) hR hk g (fun _ => hE)) (fun y I1 L1 hq => by obtain ⟨e, q1, q2, q3⟩ := hq; exact w_X9_tellOne_350 v1 (w_X9_tellOne_427 ⟨rfl, rfl, rfl, sett 309 _ _ _ _ _ _ (by omega) q1 q2 e q3 (zTell_set (Or.inr (Or.inr (Or.inl ⟨kk, rfl, rfl⟩))))⟩))
  · have kk := inj 138 (by decide) (q.trans rK_k.2.2.2.2.2.symm)
    exact w_X9_tellOne_354 hR (rTold (d := d + 2) hR hk g (fun _ => hE)) (fun y I1 L1 hq => by obtain ⟨e, q1, q2, q3⟩ := hq; exact w_X9_tellOne_370 v1 (w_X9_tellOne_427 ⟨rfl, rfl, rfl, sett 310 _ _ _ _ _ _ (by omega) q1 q2 e q3 (zTell_set (Or.inr (Or.inr (Or.inr ⟨kk, rfl, rfl⟩))))⟩))
end
