section
/-! ===== the reference's laws and settings told, with the account ===== -/
section
variable {K S : Nat → Int32} {N : Nat → Int64} {z : pZ} {A : aD}
theorem aTell_law (h1 : 130 ≤ K (pt z)) (h2 : K (pt z) < 135) : aTell K S N z A = (A.1, A.2.1, A.2.2.1, fun k => if k = (K (pt z) - 130).toInt.toNat then yLaw K S N (zTake S true z) else A.2.2.2 k) := by
  have n1 : ¬ K (pt z) = 128 := fun q => by rw [q] at h1; exact absurd h1 (by decide)
  have n2 : ¬ K (pt z) = 129 := fun q => by rw [q] at h1; exact absurd h1 (by decide)
  unfold aTell
  rw [if_neg n1, if_neg n2, if_pos ⟨h1, h2⟩]
theorem aTell_set {n : Nat} {k : Int32} (hk : K (pt z) = k) (h : (k = 135 ∧ n = 8) ∨ (k = 136 ∧ n = 9) ∨ (k = 137 ∧ n = 10) ∨ (k = 138 ∧ n = 11)) : aTell K S N z A = (A.1, A.2.1, (fun j => if j = n then (N (pt z + 1)).toInt32 else A.2.2.1 j), A.2.2.2) := by
  unfold aTell
  rw [hk]
  rcases h with ⟨rfl, rfl⟩ | ⟨rfl, rfl⟩ | ⟨rfl, rfl⟩ | ⟨rfl, rfl⟩ <;> rfl
end
theorem rK_22 : ∀ a ∈ pVk, (130 ≤ a ∧ a < 135) → rK a - 22 = a - 130 := by decide +kernel
theorem rDt_law {s at_ k : Nat} {I J : qMI} {A : aD} {Y : aLw} (hat : at_ = 5 * s + k) (hk : k < 5) (hB : (I 292 34).toInt ≤ (J 292 34).toInt) (hC : (I 292 40).toInt ≤ (J 292 40).toInt) (h : rDt s I A) (e : ∀ x, 301 ≤ x → x ≤ 310 → J x = I x) (e1 : ∀ i, i ≠ at_ → J 311 i = I 311 i ∧ J 312 i = I 312 i) (eb : ∀ i : Nat, (i : Int) < (I 292 34).toInt → J 313 i = I 313 i ∧ J 314 i = I 314 i ∧ J 315 i = I 315 i ∧ J 316 i = I 316 i ∧ J 317 i = I 317 i) (ec : ∀ i : Nat, (i : Int) < (I 292 40).toInt → J 318 i = I 318 i ∧ J 319 i = I 319 i) (hq : uLq at_ J Y) : rDt s J (A.1, A.2.1, A.2.2.1, fun j => if j = k then Y else A.2.2.2 j) := by
  unfold rDt at h ⊢
  obtain ⟨h1, h2, h3, h4⟩ := h
  refine ⟨rRow_of h1 (by rw [e 301 (by decide) (by decide)]) (e 302 (by decide) (by decide)) (e 303 (by decide) (by decide)), rRow_of h2 (by rw [e 304 (by decide) (by decide)]) (e 305 (by decide) (by decide)) (e 306 (by decide) (by decide)), fun j a b => by rw [e (299 + j) (by omega) (by omega)]; exact h3 j a b, fun j hj => ?_⟩
  show rPr s _ _ J j (if j = k then Y else A.2.2.2 j)
  by_cases q : j = k
  · rw [if_pos q]
    obtain ⟨b0, B, C, q1, q2, q3, q4, q5, q6, q7⟩ := hq
    rw [q1, q2, Int.toNat_natCast, Int.toNat_natCast, q, rPr, ← hat]
    exact Or.inr ⟨b0, q3, q4, q5, q6, q7⟩
  · rw [if_neg q]
    refine rPr_of (by omega) (by omega) (fun i hi => ec i (by omega)) (fun b hb => eb b (by omega)) (e1 _ (by omega)).1 (e1 _ (by omega)).2 (h4 j hj)
section
variable {l : Launch} {G : qG} {d : Nat} {I I0 : qMI} {L L0 : qML} {R : qMR} {s c br th se : Nat} {T : Nat} {K S : Nat → Int32} {N : Nat → Int64} {z : pZ} {A : aD}
theorem uDeflt (hR : wkR R) (hs : s = 0 ∨ s = 1) (h19 : (I0 292 19).toInt = s) (hQ : rQs T K S N s I0 L0 I L z c br th se) (z0 : pf z = 0) (hno : rDn (rK (K (pt z)))) (hA : rDt s I A) : wkB l G (d + 6 + 1) n_X9_tellOne (wkPV R (fun I' L' => uP1 T K S N s I0 L0 I (zTell K S N z) (aTell K S N z A) I' L')) 374 [.ref 292, wkU] [] I L R := by
  obtain ⟨h, g, hL0, hZ⟩ := hQ
  have f0 : I 292 13 = 0 := by rw [g.2.1]; exact z0
  obtain ⟨⟨zt, zs⟩, hnm⟩ := hZ z0
  have hk := h.2.1.1
  obtain ⟨a1', a2', a3', a4', a5'⟩ := rAt g.w z0
  have kz : I 295 (I 292 11).toNatClampNeg = rK (K (pt z)) := by rw [a1']; exact a4'
  have kd : 0 ≤ (I 295 (I 292 11).toNatClampNeg).toInt := by rw [kz]; exact (rK_b _ a3').1
  have fin : ∀ (a : Int32) (I1 : qMI) (z1 : pZ), yPS s I0 I1 c br th se → rG T K S N I1 L z1 → (pf z1 ≠ 0 → zTell K S N z = z1) → (pf z1 = 0 → z1 = z ∧ 130 ≤ K (pt z) ∧ K (pt z) < 135) → I1 292 20 = I 292 20 → (I1 292 13 = 0 → (0 ≤ a.toInt ∧ a.toInt ≤ 4) ∧ rDt s I1 A ∧ a = K (pt z) - 130) → I1 292 11 = I 292 11 → uFr s I I1 → wkB l G (d + 6 + 1) n_X9_tellOne (wkPV R (fun I' L' => uP1 T K S N s I0 L0 I (zTell K S N z) (aTell K S N z A) I' L')) 410 [.ref 292, .int a] [] I1 L R := by
    intro a I1 z1 h1 g1z hzf hzo e20 ha e11 fr1
    refine w_X9_tellOne_410 (fun q => ?_) (fun q => w_X9_tellOne_417 ⟨rfl, rfl, rfl, ⟨c, br, th, se, ⟨h1, by rw [hzf (fun x => q (by rw [g1z.2.1, x]; decide))]; exact g1z, hL0, fun x => absurd x (by rw [hzf (fun x => q (by rw [g1z.2.1, x]; decide))]; exact fun x => q (by rw [g1z.2.1, x]; decide))⟩, fun x => absurd (by rw [x]; decide) q⟩, fun x => absurd x (by rw [hzf (fun x => q (by rw [g1z.2.1, x]; decide))]; exact fun x => q (by rw [g1z.2.1, x]; decide)), fr1⟩)
    have g1 := yf0 h1.2.1.1 q
    obtain ⟨ez1, kl1, kl2⟩ := hzo (by rw [← g1z.2.1]; exact g1)
    rw [ez1] at g1z
    clear hzf hzo
    rw [zTell_law kl1 kl2, aTell_law kl1 kl2]
    obtain ⟨⟨a0, a4⟩, hA1, ha⟩ := ha g1
    refine w_X9_tellOne_418 (rGoes (d := d + 4) hR h1.2.1.1 g1z.w (fun _ x => by rw [x] at kl1; exact absurd kl1 (by decide))) (fun I2 L2 hq => ?_)
    obtain ⟨rfl, hN, g2z⟩ := hq
    have h2 := yPS_s h1 hN.1
    have e19 := yPS_19 h19 h2
    have eat : (5 * I2 292 19 + a).toInt = 5 * s + a.toInt := by
      have e5 : ((5 : Int32) * I2 292 19).toInt = 5 * s := by rw [i_mul (by rw [show (5 : Int32).toInt = 5 from rfl]; omega) (by rw [show (5 : Int32).toInt = 5 from rfl]; omega), show (5 : Int32).toInt = 5 from rfl, e19]
      rw [i_add (by omega) (by omega), e5]
    obtain ⟨y1, y2, y3, y4⟩ := h1.2.2.2.2.2 g1
    have tk := h1.2.1.1.1.2
    have hbr := h1.2.2.1
    have p2 := h2.2.2.1
    have e34 : I2 292 34 = I1 292 34 := hN.1.1.2 34 (by decide) (by decide) (by decide) (by decide) (by decide)
    refine w_X9_tellOne_422 (uTellLaw (d := d) (sb := 420 * s) (bb := 130 * s) (at_ := 5 * s + a.toInt.toNat) hR (by omega) h2.2.1 g2z p2.1 (by omega) (fun z => by have := hN.2 z; omega) (vin (by omega) (by omega)) (by rw [tcn]; omega)) (fun I3 L3 hq => wkB_le (vs := [.ref 292, wkU]) ⟨Or.inr rfl, Or.inl rfl, trivial⟩ (w_X9_tellOne_427 ⟨rfl, rfl, rfl, ?_⟩))
    obtain ⟨rfl, gz, ⟨c3, br3, z1, ⟨z2, z3, z4⟩, z5, z6, z7⟩, gq⟩ := hq
    have e20' : I2 292 20 = I 292 20 := (hN.1.1.2 20 (by decide) (by decide) (by decide) (by decide) (by decide)).trans e20
    have fr2 : uFr s I I2 := uFr_tr fr1 (uFr_o (fun k a b => hN.1.1.1 k (by omega)))
    have cnt : ∀ (I3' : qMI), I3' 292 20 = I2 292 20 → (th = (zMust K S 59 (zLaw K S (zTake S true z))).2.2.2.1 ∧ se = (zMust K S 59 (zLaw K S (zTake S true z))).2.2.2.2) ∧ rNm I3' L3 (zMust K S 59 (zLaw K S (zTake S true z))).2.2.1 := fun I3' e => by
      rw [zMust_2, zLaw_2, zTake_2]
      exact ⟨⟨zt, zs⟩, rNm_s hnm (e.trans e20')⟩
    rcases z7 with ⟨g3, zL⟩ | ⟨g3, ⟨J, zL, eJ⟩, z8, z9, z10⟩
    · refine ⟨⟨c3, br3, th, se, ⟨⟨yF_tr h2.1 (yF_l (by omega) (by omega) zL), z1, ⟨z2, by omega, by omega⟩, ?_, ?_, fun x => absurd x g3⟩, gz, hL0, fun x => absurd (gz.2.1.trans x) g3⟩, fun x => absurd x g3⟩, fun x => absurd (gz.2.1.trans x) g3, uFr_tr fr2 (uFr_o (fun k a b => zL.1 k (by omega) (by omega)))⟩
      · rw [zL.1 301 (by decide) (by decide), zL.1 304 (by decide) (by decide)]; exact h2.2.2.2.1
      · rw [zL.2.2.2 20 (by decide) (by decide) (by decide) (by decide) (by decide) (by decide) (by decide) (by decide) (by decide)]; exact h2.2.2.2.2.1
    · have g2 : I2 292 13 = 0 := yM_f0 z5 g3
      obtain ⟨x1, x2, x3, x4⟩ := h2.2.2.2.2.2 g2
      have oJ : ∀ k, k ≠ 311 → k ≠ 312 → I3 k = J k := fun k a b => by rw [eJ]; exact funext fun i => by rw [qUp_ne (fun q => b q.1), qUp_ne (fun q => a q.1)]
      have l1 : ∀ i, I3 311 i = if i = 5 * s + a.toInt.toNat then I2 292 34 else I2 311 i := fun i => by
        rw [eJ, qUp_ne (by omega), qUp_at]
        by_cases hi : i = 5 * s + a.toInt.toNat
        · rw [if_pos ⟨rfl, hi⟩, if_pos hi]
        · rw [if_neg (fun q => hi q.2), if_neg hi, zL.1 311 (by decide) (by decide)]
      have l2 : ∀ i, I3 312 i = if i = 5 * s + a.toInt.toNat then I3 292 34 else I2 312 i := fun i => by
        by_cases hi : i = 5 * s + a.toInt.toNat
        · rw [if_pos hi]
          have : I3 312 i = (qUp (qUp J 311 (5 * s + a.toInt.toNat) (I2 292 34)) 312 (5 * s + a.toInt.toNat) (I3 292 34)) 312 i := congrFun (congrFun eJ 312) i
          rw [this, qUp_at, if_pos ⟨rfl, hi⟩]
        · rw [if_neg hi]
          have : I3 312 i = (qUp (qUp J 311 (5 * s + a.toInt.toNat) (I2 292 34)) 312 (5 * s + a.toInt.toNat) (I3 292 34)) 312 i := congrFun (congrFun eJ 312) i
          rw [this, qUp_ne (fun q => hi q.2), qUp_ne (by omega), zL.1 312 (by decide) (by decide)]
      refine ⟨⟨c3, br3, th, se, ⟨⟨yF_tr h2.1 (yF_tr (yF_l (by omega) (by omega) zL) (by rw [eJ]; exact yF_tr (yF_up (by omega)) (yF_up (by omega)))), z1, ⟨z2, by omega, by omega⟩, ?_, ?_, fun _ => ⟨?_, by omega, fun b b1 b2 => ?_, fun k hk => ?_⟩⟩, gz, hL0, fun _ => cnt I3 ?_⟩, fun _ => ?_⟩, fun pz => ?_, uFr_tr fr2 (uFr_o (fun k a b => by rw [oJ k (by omega) (by omega)]; exact zL.1 k (by omega) (by omega)))⟩
      rotate_right
      · have hA2 : rDt s I2 A := rDt_of hA1 e34 (hN.1.1.2 40 (by decide) (by decide) (by decide) (by decide) (by decide)) (fun x a b => hN.1.1.1 x (by omega))
        rw [← ha]
        have k40 := h2.2.1.2.2.1
        have k40' := z1.2.2.1
        refine rDt_law rfl (by omega) (by rw [z2, p2.1]; omega) (by rw [k40, k40']; omega) hA2 (fun x a b => ?_) (fun i hi => ?_) (fun i hi => ?_) (fun i hi => ?_) (gq pz)
        · rw [oJ x (by omega) (by omega)]; exact zL.1 x (by omega) (by omega)
        · rw [l1, l2, if_neg hi, if_neg hi]; exact ⟨rfl, rfl⟩
        · rw [oJ 313 (by decide) (by decide), oJ 314 (by decide) (by decide), oJ 315 (by decide) (by decide), oJ 316 (by decide) (by decide), oJ 317 (by decide) (by decide)]
          exact zL.2.1 i (Or.inl (by omega))
        · rw [oJ 318 (by decide) (by decide), oJ 319 (by decide) (by decide)]
          exact zL.2.2.1 i (Or.inl (by omega))
      · rw [oJ 301 (by decide) (by decide), oJ 304 (by decide) (by decide), zL.1 301 (by decide) (by decide), zL.1 304 (by decide) (by decide)]; exact h2.2.2.2.1
      · rw [oJ 292 (by decide) (by decide), zL.2.2.2 20 (by decide) (by decide) (by decide) (by decide) (by decide) (by decide) (by decide) (by decide) (by decide)]; exact h2.2.2.2.2.1
      · rw [oJ 292 (by decide) (by decide), zL.2.2.2 20 (by decide) (by decide) (by decide) (by decide) (by decide) (by decide) (by decide) (by decide) (by decide)]; exact x1
      · by_cases hb : b < br
        · refine yB_congr (I := I2) (C := 420 * s + c) (by omega) (fun i hi => ?_) ?_ (x3 b b1 hb)
          · rw [oJ 318 (by decide) (by decide), oJ 319 (by decide) (by decide)]
            exact zL.2.2.1 i (Or.inl hi)
          · rw [oJ 313 (by decide) (by decide), oJ 314 (by decide) (by decide), oJ 315 (by decide) (by decide), oJ 316 (by decide) (by decide), oJ 317 (by decide) (by decide)]
            exact zL.2.1 b (Or.inl hb)
        · exact z10 b (by omega) b2
      · rw [l1, l2]
        by_cases hi : 5 * s + k = 5 * s + a.toInt.toNat
        · rw [if_pos hi, if_pos hi]
          exact Or.inr ⟨by omega, by omega⟩
        · rw [if_neg hi, if_neg hi]
          rcases x4 k hk with q | ⟨q, q'⟩
          · exact Or.inl q
          · exact Or.inr ⟨q, by omega⟩
      · rw [oJ 292 (by decide) (by decide), zL.2.2.2 20 (by decide) (by decide) (by decide) (by decide) (by decide) (by decide) (by decide) (by decide) (by decide)]
      · have t2 := hN.1.2.2.1
        rw [e11] at t2
        omega
  have bad : ¬ (130 ≤ K (pt z) ∧ K (pt z) < 135) → wkB l G (d + 6 + 1) n_X9_tellOne (wkPV R (fun I' L' => uP1 T K S N s I0 L0 I (zTell K S N z) (aTell K S N z A) I' L')) 405 [.ref 292, .int (I 295 (I 292 11).toNatClampNeg - 22)] [] I L R := fun kn => w_X9_tellOne_405 (rFail (d := d + 5) hR hk g.w (by decide) (by decide)) (fun I1 L1 hq => by
    obtain ⟨rfl, q1, q2, q3, q4⟩ := hq
    exact fin _ I1 _ (yPS_s h q1) q4 (fun _ => zTell_bad z0 a3' hno kn) (fun x => absurd x (zFail_n (by decide))) (q1.1.2 20 (by decide) (by decide) (by decide) (by decide) (by decide)) (fun z => absurd z q2) q3 (uFr_o (fun k a b => q1.1.1 k (by omega))))
  refine w_X9_tellOne_374 hR (yOk_t hk) (fun q => bad (fun x => ?_)) (fun q1 => w_X9_tellOne_391 hR (yOk_t hk) (fun q2 => fin _ I z h g (fun x => absurd z0 x) (fun _ => ⟨rfl, (rK_l _ a3').mp ?_⟩) rfl (fun _ => ⟨?_, hA, ?_⟩) rfl (uFr_o (fun _ _ _ => rfl))) (fun q => bad (fun x => ?_)))
  · have b := (rK_l _ a3').mpr x
    have b' := i_lt.mp q
    have e22 := i_sub (x := I 295 (I 292 11).toNatClampNeg) (y := 22) (by rw [show (22 : Int32).toInt = 22 from rfl, kz]; omega) (by rw [show (22 : Int32).toInt = 22 from rfl, kz]; omega)
    rw [show (22 : Int32).toInt = 22 from rfl] at e22
    rw [e22, kz, show (0 : Int32).toInt = 0 from rfl] at b'
    omega
  · have a1 : ¬ _ := fun q => q1 (i_lt.mpr q)
    have a2 := i_le.mp q2
    rw [show (26 : Int32).toInt = 26 from rfl] at a2
    have e22 := i_sub (x := I 295 (I 292 11).toNatClampNeg) (y := 22) (by rw [show (22 : Int32).toInt = 22 from rfl]; omega) (by rw [show (22 : Int32).toInt = 22 from rfl]; omega)
    rw [show (22 : Int32).toInt = 22 from rfl] at e22
    rw [show (0 : Int32).toInt = 0 from rfl] at a1
    rw [← kz]
    omega
  · have a1 : ¬ _ := fun q => q1 (i_lt.mpr q)
    have a2 := i_le.mp q2
    rw [show (26 : Int32).toInt = 26 from rfl] at a2
    have e22 := i_sub (x := I 295 (I 292 11).toNatClampNeg) (y := 22) (by rw [show (22 : Int32).toInt = 22 from rfl]; omega) (by rw [show (22 : Int32).toInt = 22 from rfl]; omega)
    rw [show (22 : Int32).toInt = 22 from rfl] at e22
    rw [show (0 : Int32).toInt = 0 from rfl] at a1
    omega
  · have a1 : ¬ _ := fun q => q1 (i_lt.mpr q)
    have a2 := i_le.mp q2
    rw [show (26 : Int32).toInt = 26 from rfl] at a2
    have e22 := i_sub (x := I 295 (I 292 11).toNatClampNeg) (y := 22) (by rw [show (22 : Int32).toInt = 22 from rfl]; omega) (by rw [show (22 : Int32).toInt = 22 from rfl]; omega)
    rw [show (22 : Int32).toInt = 22 from rfl] at e22
    rw [show (0 : Int32).toInt = 0 from rfl] at a1
    rw [kz]
    exact rK_22 _ a3' ((rK_l _ a3').mp (by rw [← kz]; omega))
  · have b := (rK_l _ a3').mpr x
    exact q (i_le.mpr (by rw [kz, show (26 : Int32).toInt = 26 from rfl]; exact b.2))
theorem uTellOne (hR : wkR R) (hs : s = 0 ∨ s = 1) (h19 : (I0 292 19).toInt = s) (hQ : rQs T K S N s I0 L0 I L z c br th se) (z0 : pf z = 0) (hE : K (pt z) ≠ 0) (hA : rDt s I A) : wkV l G (d + 7) n_X9_tellOne [.ref 292] I L R (fun I' L' => uP1 T K S N s I0 L0 I (zTell K S N z) (aTell K S N z A) I' L') := by
  obtain ⟨h, g, hL0, hZ⟩ := id hQ
  have hk := h.2.1.1
  obtain ⟨⟨zt, zs⟩, hnm⟩ := hZ z0
  obtain ⟨a1, a2, a3, a4, a5⟩ := rAt g.w z0
  have kz : I 295 (I 292 11).toNatClampNeg = rK (K (pt z)) := by rw [a1]; exact a4
  have v1 : vp_in (I 292 19) 2 := by have := yPS_19 h19 h; exact vin (by omega) (by omega)
  have sett : ∀ (k : Nat) (a b y : Int32) (I1 : qMI) (L1 : qML) (i : Nat), (302 ≤ k ∧ k ≤ 310 ∧ k ≠ 304) → yS I I1 → (I1 292 13 = 0 → (I1 292 11).toInt = (I 292 11).toInt + 3) → L1 = L → rG T K S N I1 L1 (zMust K S 59 (zInt K S N a b (zTake S true z))) → zTell K S N z = zMust K S 59 (zInt K S N a b (zTake S true z)) → rP1 T K S N s I0 L0 I (zTell K S N z) (qUp I1 k i y) L1 := fun k a b y I1 L1 i hk' q1 q2 eL gz ez => ⟨c, br, th, se, ⟨yPS_w hk' (yPS_s h q1), by rw [ez]; exact rG_c (by omega) gz, by rw [eL]; exact hL0, fun _ => by
      rw [ez, zMust_2, zInt_3, zTake_2]
      refine ⟨⟨zt, zs⟩, ?_⟩
      rw [eL]
      exact rNm_s hnm (by rw [qUp_ne (by omega)]; exact q1.1.2 20 (by decide) (by decide) (by decide) (by decide) (by decide))⟩, fun x => by
    rw [qUp_ne (by omega)] at x ⊢
    have := q2 x
    omega⟩
  have v19 : (I 292 19).toInt = s := yPS_19 h19 h
  have w19 : ∀ I1, yS I I1 → (I1 292 19).toNatClampNeg = s := fun I1 q1 => by rw [tcn, q1.1.2 19 (by decide) (by decide) (by decide) (by decide) (by decide), v19]; omega
  have set2 : ∀ (n : Nat) (k a b y : Int32) (I1 : qMI) (L1 : qML) (i : Nat), i = s → ((k = 135 ∧ n = 8) ∨ (k = 136 ∧ n = 9) ∨ (k = 137 ∧ n = 10) ∨ (k = 138 ∧ n = 11)) → K (pt z) = k → yS I I1 → (I1 292 13 = 0 → (I1 292 11).toInt = (I 292 11).toInt + 3) → L1 = L → rG T K S N I1 L1 (zMust K S 59 (zInt K S N a b (zTake S true z))) → (pf (zMust K S 59 (zInt K S N a b (zTake S true z))) = 0 → y = (N (pt z + 1)).toInt32) → zTell K S N z = zMust K S 59 (zInt K S N a b (zTake S true z)) → uP1 T K S N s I0 L0 I (zTell K S N z) (aTell K S N z A) (qUp I1 (299 + n) i y) L1 := fun n k a b y I1 L1 i hi hn hkk q1 q2 eL gz gv ez => ⟨sett (299 + n) a b y I1 L1 i (by omega) q1 q2 eL gz ez, fun pz => by
    rw [aTell_set hkk hn]
    have hy := gv (by rw [← ez]; exact pz)
    rw [hi]
    refine rDt_set (by omega) hA ?_ ?_ (fun x x1 x2 x3 => ?_) ?_
    · rw [qUp_ne (by omega)]; exact q1.1.2 34 (by decide) (by decide) (by decide) (by decide) (by decide)
    · rw [qUp_ne (by omega)]; exact q1.1.2 40 (by decide) (by decide) (by decide) (by decide) (by decide)
    · rw [show (qUp I1 (299 + n) s y) x = I1 x from funext fun i => qUp_ne (fun q => x3 q.1)]; exact q1.1.1 x (by omega)
    · rw [qUp_at, if_pos ⟨rfl, rfl⟩]; exact hy, uFr_tr (uFr_o (fun x a b => q1.1.1 x (by omega))) (uFr_up (by omega) (fun _ _ => hi))⟩
  have dflt : rDn (rK (K (pt z))) → wkB l G (d + 6 + 1) n_X9_tellOne (wkPV R (fun I' L' => uP1 T K S N s I0 L0 I (zTell K S N z) (aTell K S N z A) I' L')) 374 [.ref 292, wkU] [] I L R := fun x => uDeflt (l := l) (G := G) (d := d) (L := L) hR hs h19 hQ z0 x hA
  have inj : ∀ k ∈ pVk, rK (K (pt z)) = rK k → K (pt z) = k := fun k hk q => rK_inj _ a3 _ hk q
  refine wkC_of 1 (by decide) (Nat.le_of_ble_eq_true rfl) (w_X9_tellOne_0 hR (yOk_t hk) ?_)
  rw [kz]
  refine qSwt_n (fun q => uThing (d := d + 2) hR hs h19 hQ z0 (inj 128 (by decide) (q.trans rK_k.1.symm)) hA) (fun n20 => qSwt_n (fun q => uSeat (d := d + 2) hR hs h19 hQ z0 (inj 129 (by decide) (q.trans rK_k.2.1.symm)) hA) (fun n21 => ?_))
  refine qSwt_n (fun q => dflt (by rw [q]; decide)) (fun _ => qSwt_n (fun q => dflt (by rw [q]; decide)) (fun _ => qSwt_n (fun q => dflt (by rw [q]; decide)) (fun _ => qSwt_n (fun q => dflt (by rw [q]; decide)) (fun _ => qSwt_n (fun q => dflt (by rw [q]; decide)) (fun _ => ?_)))))
  refine qSwt_n (fun q => ?_) (fun n27 => qSwt_n (fun q => ?_) (fun n28 => qSwt_n (fun q => ?_) (fun n29 => qSwt_n (fun q => ?_) (fun n30 => qSwt_d (dflt ⟨n20, n21, n27, n28, n29, n30⟩)))))
  · have kk := inj 135 (by decide) (q.trans rK_k.2.2.1.symm)
    exact w_X9_tellOne_297 hR (uTold (d := d + 2) hR hk g (fun _ => hE)) (fun y I1 L1 hq => by obtain ⟨e, q1, q2, q3, q4⟩ := hq; exact w_X9_tellOne_312 v1 (w_X9_tellOne_427 ⟨rfl, rfl, rfl, set2 8 135 _ _ _ _ _ _ (w19 _ (yS_rf hk)) (by decide) kk q1 q2 e q3 q4 (zTell_set (Or.inl ⟨kk, rfl, rfl⟩))⟩))
  · have kk := inj 136 (by decide) (q.trans rK_k.2.2.2.1.symm)
    exact w_X9_tellOne_316 hR (uTold (d := d + 2) hR hk g (fun _ => hE)) (fun y I1 L1 hq => by obtain ⟨e, q1, q2, q3, q4⟩ := hq; exact w_X9_tellOne_331 v1 (w_X9_tellOne_427 ⟨rfl, rfl, rfl, set2 9 136 _ _ _ _ _ _ (w19 _ (yS_rf hk)) (by decide) kk q1 q2 e q3 q4 (zTell_set (Or.inr (Or.inl ⟨kk, rfl, rfl⟩)))⟩))
  · have kk := inj 137 (by decide) (q.trans rK_k.2.2.2.2.1.symm)
    exact w_X9_tellOne_335 hR (uTold (d := d + 2) hR hk g (fun _ => hE)) (fun y I1 L1 hq => by obtain ⟨e, q1, q2, q3, q4⟩ := hq; exact w_X9_tellOne_350 v1 (w_X9_tellOne_427 ⟨rfl, rfl, rfl, set2 10 137 _ _ _ _ _ _ (w19 _ (yS_rf hk)) (by decide) kk q1 q2 e q3 q4 (zTell_set (Or.inr (Or.inr (Or.inl ⟨kk, rfl, rfl⟩))))⟩))
  · have kk := inj 138 (by decide) (q.trans rK_k.2.2.2.2.2.symm)
    exact w_X9_tellOne_354 hR (uTold (d := d + 2) hR hk g (fun _ => hE)) (fun y I1 L1 hq => by obtain ⟨e, q1, q2, q3, q4⟩ := hq; exact w_X9_tellOne_370 v1 (w_X9_tellOne_427 ⟨rfl, rfl, rfl, set2 11 138 _ _ _ _ _ _ (w19 _ (yS_rf hk)) (by decide) kk q1 q2 e q3 q4 (zTell_set (Or.inr (Or.inr (Or.inr ⟨kk, rfl, rfl⟩))))⟩))
end
end
section
/-! ===== the reference made plain, begun, kept: what stands then ===== -/
/-- what plain leaves of the settings -/
def uPv (s : Nat) (I I' : qMI) : Prop := (I' 307 s = 24 ∧ I' 308 s = 0 ∧ I' 309 s = 0 ∧ I' 310 s = 0) ∧ uFr s I I'
section
variable {l : Launch} {G : qG} {d : Nat} {I I0 : qMI} {L : qML} {R : qMR} {s : Nat}
theorem uPv_up {k i : Nat} {x : Int32} {J : qMI} (hk : k = 311 ∨ k = 312) (h : uPv s I J) : uPv s I (qUp J k i x) := by
  obtain ⟨⟨h1, h2, h3, h4⟩, h5⟩ := h
  refine ⟨⟨?_, ?_, ?_, ?_⟩, uFr_tr h5 (uFr_up (by omega) (by omega))⟩
  · rw [qUp_ne (by omega)]; exact h1
  · rw [qUp_ne (by omega)]; exact h2
  · rw [qUp_ne (by omega)]; exact h3
  · rw [qUp_ne (by omega)]; exact h4
theorem uPlain (hR : wkR R) (hs : s = 0 ∨ s = 1) {a : Int32} (ha : a.toInt = s) : wkV l G (d + 1) n_X9_plain [.ref 292, .int a] I L R (fun I' L' => L' = L ∧ yPl s I I' ∧ uPv s I I') := by
  have hv : vp_in a 2 := vin (by omega) (by omega)
  have ea : a.toNatClampNeg = s := by rw [tcn, ha]; rfl
  have m5 : ((5 : Int32) * a).toInt = 5 * (s : Int) := by
    rw [i_mul (by rw [show (5 : Int32).toInt = 5 from rfl]; omega) (by rw [show (5 : Int32).toInt = 5 from rfl]; omega), ha]; rfl
  have loop : ∀ (m : Nat) (J : qMI) (n : Int32), m + n.toInt.toNat = 5 → 0 ≤ n.toInt → yF s I J → (∀ j, J 292 j = I 292 j) → J 301 s = 0 → J 304 s = 0 → (∀ k : Nat, (k : Int) < n.toInt → J 311 (5 * s + k) = 0 ∧ J 312 (5 * s + k) = 0) → uPv s I J → wkB l G (d + 1) n_X9_plain (wkPV R (fun I' L' => L' = L ∧ yPl s I I' ∧ uPv s I I')) 45 [.ref 292, .int a, .int n] [] J L R := by
    intro m
    induction m with
    | zero =>
      intro J n hm n0 h1 h2 h3 h4 h5 h6
      exact w_X9_plain_45 (fun _ => w_X9_plain_78 ⟨rfl, rfl, rfl, rfl, ⟨h1, h2, h3, h4, fun k hk => h5 k (by omega)⟩, h6⟩) (fun q => absurd (i_le.mpr (by rw [show (5 : Int32).toInt = 5 from rfl]; omega)) q)
    | succ m ih =>
      intro J n hm n0 h1 h2 h3 h4 h5 h6
      refine w_X9_plain_45 (fun q => ?_) (fun _ => ?_)
      · have := i_le.mp q
        rw [show (5 : Int32).toInt = 5 from rfl] at this
        omega
      · have en : ((5 : Int32) * a + n).toInt = 5 * (s : Int) + n.toInt := by rw [i_add (by omega) (by omega), m5]
        have vn : vp_in ((5 : Int32) * a + n) 10 := vin (by omega) (by omega)
        have ec : ((5 : Int32) * a + n).toNatClampNeg = 5 * s + n.toInt.toNat := by rw [tcn, en]; omega
        have sn : (n + 1).toInt = n.toInt + 1 := i_s (by omega)
        refine w_X9_plain_50 hR vn vn ?_
        rw [ec]
        refine ih _ (n + 1) (by omega) (by omega) (yF_tr h1 (yF_tr (yF_up (by omega)) (yF_up (by omega)))) (fun j => by rw [qUp_ne (by omega), qUp_ne (by omega)]; exact h2 j) (by rw [qUp_ne (by omega), qUp_ne (by omega)]; exact h3) (by rw [qUp_ne (by omega), qUp_ne (by omega)]; exact h4) (fun k hk => ?_) (uPv_up (Or.inr rfl) (uPv_up (Or.inl rfl) h6))
        by_cases z : k = n.toInt.toNat
        · subst z
          exact ⟨by rw [qUp_ne (by omega), qUp_at, if_pos ⟨rfl, rfl⟩], by rw [qUp_at, if_pos ⟨rfl, rfl⟩]⟩
        · exact ⟨by rw [qUp_ne (by omega), qUp_ne (by omega)]; exact (h5 k (by omega)).1, by rw [qUp_ne (by omega), qUp_ne (by omega)]; exact (h5 k (by omega)).2⟩
  refine wkC_of 1 (by decide) (Nat.le_of_ble_eq_true rfl) (w_X9_plain_0 hR hv hv hv hv hv hv ?_)
  rw [ea]
  refine loop 5 _ 0 (by decide) (by decide) (yF_tr (yF_up (by omega)) (yF_tr (yF_up (by omega)) (yF_tr (yF_up (by omega)) (yF_tr (yF_up (by omega)) (yF_tr (yF_up (by omega)) (yF_up (by omega))))))) (fun j => ?_) ?_ ?_ (fun k hk => ?_) ⟨⟨?_, ?_, ?_, ?_⟩, uFr_tr (uFr_up (by omega) (by omega)) (uFr_tr (uFr_up (by omega) (by omega)) (uFr_tr (uFr_up (by omega) (by omega)) (uFr_tr (uFr_up (by omega) (by omega)) (uFr_tr (uFr_up (by omega) (by omega)) (uFr_up (by omega) (by omega))))))⟩
  · rw [qUp_ne (by omega), qUp_ne (by omega), qUp_ne (by omega), qUp_ne (by omega), qUp_ne (by omega), qUp_ne (by omega)]
  · rw [qUp_ne (by omega), qUp_ne (by omega), qUp_ne (by omega), qUp_ne (by omega), qUp_ne (by omega), qUp_at, if_pos ⟨rfl, rfl⟩]
  · rw [qUp_ne (by omega), qUp_ne (by omega), qUp_ne (by omega), qUp_ne (by omega), qUp_at, if_pos ⟨rfl, rfl⟩]
  · rw [show (0 : Int32).toInt = 0 from rfl] at hk
    omega
  · rw [qUp_ne (by omega), qUp_ne (by omega), qUp_ne (by omega), qUp_at, if_pos ⟨rfl, rfl⟩]
  · rw [qUp_ne (by omega), qUp_ne (by omega), qUp_at, if_pos ⟨rfl, rfl⟩]
  · rw [qUp_ne (by omega), qUp_at, if_pos ⟨rfl, rfl⟩]
  · rw [qUp_at, if_pos ⟨rfl, rfl⟩]
theorem uKeeps (hR : wkR R) : wkV l G (d + 1) n_X9_keepsRow [.ref 292] I L R (fun I' L' => L' = L ∧ yBg I I' ∧ (∀ k, k ≠ 323 → I' k = I k) ∧ ∀ i, i < 97 → I' 323 i = I 324 i) := by
  have loop : ∀ (m : Nat) (J : qMI) (n : Int32), (97 - n.toInt).toNat = m → 0 ≤ n.toInt → yBg I J → (∀ k, k ≠ 323 → J k = I k) → (∀ i : Nat, i < 97 → (i : Int) < n.toInt → J 323 i = I 324 i) → wkB l G (d + 1) n_X9_keepsRow (wkPV R (fun I' L' => L' = L ∧ yBg I I' ∧ (∀ k, k ≠ 323 → I' k = I k) ∧ ∀ i, i < 97 → I' 323 i = I 324 i)) 2 [.ref 292, .int n] [] J L R := by
    intro m
    induction m with
    | zero =>
      intro J n hm n0 h h1 h2
      exact w_X9_keepsRow_2 (fun _ => w_X9_keepsRow_26 ⟨rfl, rfl, rfl, rfl, h, h1, fun i hi => h2 i hi (by omega)⟩) (fun q => absurd (i_le.mpr (by rw [show (97 : Int32).toInt = 97 from rfl]; omega)) q)
    | succ m ih =>
      intro J n hm n0 h h1 h2
      refine w_X9_keepsRow_2 (fun q => w_X9_keepsRow_26 ⟨rfl, rfl, rfl, rfl, h, h1, fun i hi => h2 i hi ?_⟩) (fun q => ?_)
      · have := i_le.mp q
        rw [show (97 : Int32).toInt = 97 from rfl] at this
        omega
      have vn : vp_in n 97 := vin n0 (by omega)
      have sn : (n + 1).toInt = n.toInt + 1 := i_s (by omega)
      refine w_X9_keepsRow_8 hR vn vn (ih _ (n + 1) (by omega) (by omega) (yBg_tr h (yBg_up (Or.inl rfl))) (fun k hk => (funext fun i => qUp_ne (fun q => hk q.1)).trans (h1 k hk)) (fun i hi hn => ?_))
      rw [qUp_at]
      by_cases q : i = n.toNatClampNeg
      · rw [if_pos ⟨rfl, q⟩, h1 324 (by decide), q]
      · rw [if_neg (fun x => q x.2)]
        exact h2 i hi (by rw [tcn] at q; omega)
  exact wkC_of 1 (by decide) (Nat.le_of_ble_eq_true rfl) (w_X9_keepsRow_0 (loop _ I 0 rfl (by decide) (yBg_rf I) (fun _ _ => rfl) (fun i hi h => absurd h (by rw [show (0 : Int32).toInt = 0 from rfl]; omega))))
/-- a state as it begins, of so many seats -/
def bRw (I : qMI) (v n i : Nat) : Int32 := if i = 96 then I 309 v else if i < n then I 305 (6 * v + i) else if 6 ≤ i ∧ i < 6 + n then I 306 (6 * v + (i - 6)) else 0
theorem uBegins (hR : wkR R) {v sn : Nat} (hv : v = 0 ∨ v = 1) (h18 : (I 292 18).toInt = v) (h4 : (I 304 v).toInt = sn) (h46 : sn ≤ 6) : wkV l G (d + 1) n_X9_begins [.ref 292] I L R (fun I' L' => L' = L ∧ yBg I I' ∧ ∀ i, i < 97 → I' 324 i = bRw I v sn i) := by
  have v2 : vp_in (I 292 18) 2 := vin (by omega) (by omega)
  have ev : (I 292 18).toNatClampNeg = v := by rw [tcn, h18]; rfl
  have m6 : ((6 : Int32) * I 292 18).toInt = 6 * (v : Int) := by
    rw [i_mul (by rw [show (6 : Int32).toInt = 6 from rfl]; omega) (by rw [show (6 : Int32).toInt = 6 from rfl]; omega), h18]; rfl
  have loop2 : ∀ (m : Nat) (J : qMI) (n : Int32), (6 - n.toInt).toNat = m → 0 ≤ n.toInt → n.toInt ≤ sn → yBg I J → (∀ i : Nat, i < 97 → J 324 i = if (i : Int) < n.toInt then I 305 (6 * v + i) else if 6 ≤ i ∧ (i : Int) < 6 + n.toInt then I 306 (6 * v + (i - 6)) else 0) → wkB l G (d + 1) n_X9_begins (wkPV R (fun I' L' => L' = L ∧ yBg I I' ∧ ∀ i, i < 97 → I' 324 i = bRw I v sn i)) 23 [.ref 292, .int n] [] J L R := by
    intro m
    induction m using Nat.strongRecOn with
    | ind m ih =>
      intro J n hm n0 n1 h hJ
      have e18 : J 292 18 = I 292 18 := h.2 18 (by decide) (by decide) (by decide)
      have e304 : J 304 = I 304 := h.1 304 (by decide) (by decide) (by decide) (by decide)
      have e309 : J 309 = I 309 := h.1 309 (by decide) (by decide) (by decide) (by decide)
      have e305 : J 305 = I 305 := h.1 305 (by decide) (by decide) (by decide) (by decide)
      have e306 : J 306 = I 306 := h.1 306 (by decide) (by decide) (by decide) (by decide)
      have f18 : ∀ a x, (qUp J 324 a x) 292 18 = I 292 18 := fun a x => by rw [qUp_ne (by omega), e18]
      refine w_X9_begins_23 hR (by rw [e18]; exact v2) (fun q => w_X9_begins_85 hR (by rw [e18]; exact v2) (vin (by decide) (by decide)) (by rw [f18]; exact v2) ⟨rfl, rfl, rfl, rfl, yBg_tr h (yBg_tr (yBg_up (Or.inr (Or.inl rfl))) (yBg_up (Or.inr (Or.inr (Or.inr ⟨rfl, Or.inl rfl⟩))))), fun i hi => ?_⟩) (fun q => ?_)
      · have q := i_le.mp q
        rw [e18, ev, e304, h4] at q
        have en : n.toInt = sn := by omega
        rw [qUp_ne (by omega), qUp_at, show (96 : Int32).toNatClampNeg = 96 from rfl, e18, ev, e309]
        unfold bRw
        by_cases q96 : i = 96
        · rw [if_pos ⟨rfl, q96⟩, if_pos q96]
        · rw [if_neg (fun x => q96 x.2), if_neg q96, hJ i hi, en]
          by_cases a : i < sn
          · rw [if_pos a, if_pos (by omega)]
          · rw [if_neg a, if_neg (by omega)]
            by_cases b : 6 ≤ i ∧ i < 6 + sn
            · rw [if_pos b, if_pos (by omega)]
            · rw [if_neg b, if_neg (by omega)]
      have lt : n.toInt < sn := by
        have : ¬ _ := fun z => q (i_le.mpr z)
        rw [e18, ev, e304, h4] at this
        omega
      have e12 : ((6 : Int32) * I 292 18 + n).toInt = 6 * v + n.toInt := by rw [i_add (by omega) (by omega), m6]
      have v12 : vp_in ((6 : Int32) * I 292 18 + n) 12 := vin (by omega) (by omega)
      have e6n : ((6 : Int32) + n).toInt = 6 + n.toInt := by rw [i_add (by rw [show (6 : Int32).toInt = 6 from rfl]; omega) (by rw [show (6 : Int32).toInt = 6 from rfl]; omega), show (6 : Int32).toInt = 6 from rfl]
      have sn1 : (n + 1).toInt = n.toInt + 1 := i_s (by omega)
      refine w_X9_begins_36 hR (by rw [e18]; exact v12) (vin n0 (by omega)) (by rw [f18]; exact v12) (vin (by omega) (by omega)) (ih _ (by omega) _ (n + 1) rfl (by omega) (by omega) (yBg_tr h (yBg_tr (yBg_up (Or.inr (Or.inl rfl))) (yBg_up (Or.inr (Or.inl rfl))))) (fun i hi => ?_))
      rw [qUp_at, f18, tcn, e6n, qUp_ne (by omega), e306, tcn, e12, qUp_at, tcn, e18, tcn, e12, e305]
      by_cases a : i = (6 + n.toInt).toNat
      · rw [if_pos ⟨rfl, a⟩, if_neg (by omega), if_pos (by omega)]
        congr 1
        omega
      · rw [if_neg (fun x => a x.2)]
        by_cases b : i = n.toInt.toNat
        · rw [if_pos ⟨rfl, b⟩, if_pos (by omega)]
          congr 1
          omega
        · rw [if_neg (fun x => b x.2), hJ i hi]
          by_cases c : (i : Int) < n.toInt
          · rw [if_pos c, if_pos (show (i : Int) < (n + 1).toInt by omega)]
          · rw [if_neg c, if_neg (show ¬ (i : Int) < (n + 1).toInt by omega)]
            by_cases e : 6 ≤ i ∧ (i : Int) < 6 + n.toInt
            · rw [if_pos e, if_pos (show 6 ≤ i ∧ (i : Int) < 6 + (n + 1).toInt by omega)]
            · rw [if_neg e, if_neg (show ¬ (6 ≤ i ∧ (i : Int) < 6 + (n + 1).toInt) by omega)]
  have loop : ∀ (m : Nat) (J : qMI) (n : Int32), (97 - n.toInt).toNat = m → 0 ≤ n.toInt → yBg I J → (∀ i : Nat, i < 97 → (i : Int) < n.toInt → J 324 i = 0) → wkB l G (d + 1) n_X9_begins (wkPV R (fun I' L' => L' = L ∧ yBg I I' ∧ ∀ i, i < 97 → I' 324 i = bRw I v sn i)) 2 [.ref 292, .int n] [] J L R := by
    intro m
    have on : ∀ (J : qMI), yBg I J → (∀ i : Nat, i < 97 → J 324 i = 0) → wkB l G (d + 1) n_X9_begins (wkPV R (fun I' L' => L' = L ∧ yBg I I' ∧ ∀ i, i < 97 → I' 324 i = bRw I v sn i)) 23 [.ref 292, .int 0] [] J L R := fun J h h1 => loop2 _ J 0 rfl (by decide) (by rw [show (0 : Int32).toInt = 0 from rfl]; omega) h (fun i hi => by
      rw [h1 i hi, show (0 : Int32).toInt = 0 from rfl, if_neg (by omega), if_neg (by omega)])
    induction m with
    | zero =>
      intro J n hm n0 h h1
      exact w_X9_begins_2 (fun _ => w_X9_begins_21 (on J h (fun i hi => h1 i hi (by omega)))) (fun q => absurd (i_le.mpr (by rw [show (97 : Int32).toInt = 97 from rfl]; omega)) q)
    | succ m ih =>
      intro J n hm n0 h h1
      refine w_X9_begins_2 (fun q => w_X9_begins_21 (on J h (fun i hi => h1 i hi ?_))) (fun q => ?_)
      · have := i_le.mp q
        rw [show (97 : Int32).toInt = 97 from rfl] at this
        omega
      have sn1 : (n + 1).toInt = n.toInt + 1 := i_s (by omega)
      refine w_X9_begins_8 hR (vin n0 (by omega)) (ih _ (n + 1) (by omega) (by omega) (yBg_tr h (yBg_up (Or.inr (Or.inl rfl)))) (fun i hi hn => ?_))
      rw [qUp_at]
      by_cases q : i = n.toNatClampNeg
      · rw [if_pos ⟨rfl, q⟩]
      · rw [if_neg (fun x => q x.2)]
        exact h1 i hi (by rw [tcn] at q; omega)
  exact wkC_of 1 (by decide) (Nat.le_of_ble_eq_true rfl) (w_X9_begins_0 (loop _ I 0 rfl (by decide) (yBg_rf I) (fun i hi h => absurd h (by rw [show (0 : Int32).toInt = 0 from rfl]; omega))))
end
/-! ===== a side as it stands between readings ===== -/
def rDf (s : Nat) (I : qMI) (A : aD) : Prop := rDa s (130 * s + 130) (420 * s + 420) I A
/-- the state that a flat begins with -/
def bX (A : aD) (i : Nat) : Int32 := if i = 96 then A.2.2.1 10 else if i < 6 then (A.2.1[i]?.map (fun p => p.1)).getD 0 else if i < 12 then (A.2.1[i - 6]?.map (fun p => p.2)).getD 0 else 0
theorem rDt_f {s : Nat} {I : qMI} {A : aD} (hB : (I 292 34).toInt ≤ 130 * s + 130) (hC : (I 292 40).toInt ≤ 420 * s + 420) (h : rDt s I A) : rDf s I A := by
  obtain ⟨h1, h2, h3, h4⟩ := h
  exact ⟨h1, h2, h3, fun k hk => rPr_of (by omega) (by omega) (fun _ _ => ⟨rfl, rfl⟩) (fun _ _ => ⟨rfl, rfl, rfl, rfl, rfl⟩) rfl rfl (h4 k hk)⟩
theorem rDf_of {s : Nat} {I J : qMI} {A : aD} (h : rDf s I A) (e : ∀ x, 301 ≤ x → x ≤ 319 → J x = I x) : rDf s J A := by
  obtain ⟨h1, h2, h3, h4⟩ := h
  exact ⟨rRow_of h1 (by rw [e 301 (by decide) (by decide)]) (e 302 (by decide) (by decide)) (e 303 (by decide) (by decide)), rRow_of h2 (by rw [e 304 (by decide) (by decide)]) (e 305 (by decide) (by decide)) (e 306 (by decide) (by decide)), fun j a b => by rw [e (299 + j) (by omega) (by omega)]; exact h3 j a b, fun k hk => rPr_c (fun x a b => e x (by omega) b) (h4 k hk)⟩
theorem bRw_X {s : Nat} {I : qMI} {A : aD} (h : rDf s I A) {i : Nat} : bRw I s A.2.1.length i = bX A i := by
  obtain ⟨-, ⟨⟨-, h6⟩, h2⟩, h3, -⟩ := h
  unfold bRw bX
  by_cases q : i = 96
  · rw [if_pos q, if_pos q]; exact h3 10 (by decide) (by decide)
  rw [if_neg q, if_neg q]
  by_cases a : i < A.2.1.length
  · rw [if_pos a, if_pos (by omega), List.getElem?_eq_getElem a]
    exact (h2 i _ (List.getElem?_eq_getElem a)).1
  · rw [if_neg a]
    by_cases b : 6 ≤ i ∧ i < 6 + A.2.1.length
    · have c : i - 6 < A.2.1.length := by omega
      rw [if_pos b, if_neg (by omega), if_pos (by omega), List.getElem?_eq_getElem c]
      exact (h2 (i - 6) _ (List.getElem?_eq_getElem c)).2
    · rw [if_neg b]
      by_cases c : i < 6
      · rw [if_pos c, List.getElem?_eq_none (by omega)]; rfl
      · rw [if_neg c]
        by_cases e : i < 12
        · rw [if_pos e, List.getElem?_eq_none (by omega)]; rfl
        · rw [if_neg e]
theorem rSeg_reg {I J : qMI} {f t : Int32} {w : pC} {lo hi : Nat} (hf : (lo : Int) ≤ f.toInt) (ht : t.toInt ≤ hi) (e : ∀ i, lo ≤ i → i < hi → J 318 i = I 318 i ∧ J 319 i = I 319 i) (h : rSeg I f t w) : rSeg J f t w := by
  obtain ⟨h1, h2, h3⟩ := h
  refine ⟨h1, h2, fun i p hp => ?_⟩
  have hi : i < w.length := (List.getElem?_eq_some_iff.mp hp).1
  have e' := e (f.toInt.toNat + i) (by omega) (by omega)
  rw [e'.1, e'.2]
  exact h3 i p hp
/-- the other side's telling leaves a side as it is -/
theorem rDf_F {s v : Nat} {I J : qMI} {A : aD} (hs : s = 0 ∨ s = 1) (hv : v = 0 ∨ v = 1) (hn : s ≠ v) (h : yF s I J) (g : uFr s I J) (hz : zreg I v) (hA : rDf v I A) : rDf v J A := by
  obtain ⟨h1, h2, h3, h4⟩ := hA
  obtain ⟨-, f2, f3, f4, f5, -⟩ := h
  have l6 : ∀ i p, A.1[i]? = some p → i < 6 := fun i p q => by have := (List.getElem?_eq_some_iff.mp q).1; have := h1.1.2; omega
  have l6' : ∀ i p, A.2.1[i]? = some p → i < 6 := fun i p q => by have := (List.getElem?_eq_some_iff.mp q).1; have := h2.1.2; omega
  refine ⟨⟨⟨?_, h1.1.2⟩, fun i p q => ?_⟩, ⟨⟨?_, h2.1.2⟩, fun i p q => ?_⟩, fun j a b => ?_, fun k hk => ?_⟩
  · rw [(f2 v (fun x => hn x.symm)).1]; exact h1.1.1
  · have := l6 i p q
    rw [g.1 302 (6 * v + i) (by omega) (by omega), g.1 303 (6 * v + i) (by omega) (by omega)]; exact h1.2 i p q
  · rw [(f2 v (fun x => hn x.symm)).2]; exact h2.1.1
  · have := l6' i p q
    rw [g.1 305 (6 * v + i) (by omega) (by omega), g.1 306 (6 * v + i) (by omega) (by omega)]; exact h2.2 i p q
  · rw [g.2 (299 + j) v (by omega) (by omega) (fun x => hn x.symm)]; exact h3 j a b
  · obtain ⟨a1, a2⟩ := f3 (5 * v + k) (by omega)
    rcases h4 k hk with ⟨q1, q2⟩ | ⟨b0, q1, q2, q3, q4, q5⟩
    · exact Or.inl ⟨by rw [a1, a2]; exact q1, q2⟩
    · have lt : I 311 (5 * v + k) < I 312 (5 * v + k) := i_lt.mpr (by rw [q1, q2]; omega)
      obtain ⟨⟨z1, z2⟩, z3⟩ := hz k hk lt
      rw [q1] at z1 z3
      rw [q2] at z2 z3
      have ec : ∀ i, 420 * v ≤ i → i < 420 * v + 420 → J 318 i = I 318 i ∧ J 319 i = I 319 i := fun i a b => f5 i (by omega)
      refine Or.inr ⟨b0, by rw [a1]; exact q1, by rw [a2]; exact q2, q3, fun i p hp => ?_, ?_⟩
      · have hi : i < (A.2.2.2 k).1.length := (List.getElem?_eq_some_iff.mp hp).1
        obtain ⟨e1, e2, e3, e4, e5⟩ := f4 (b0 + i) (by omega)
        obtain ⟨t1, t2, t3, t4, t5⟩ := q4 i p hp
        obtain ⟨⟨⟨y1, y2⟩, y3, y4⟩, y5, y6⟩ := (fun x : zregB I v (b0 + i) => And.intro (x.1 t1) x.2) (z3 (b0 + i) (by omega) (by omega))
        unfold rBt
        rw [e1, e2, e3, e4, e5]
        exact ⟨t1, rSeg_reg (lo := 420 * v) (hi := 420 * v + 420) (by omega) (by omega) ec t2, rSeg_reg (lo := 420 * v) (hi := 420 * v + 420) (by omega) (by omega) ec t3, rSeg_reg (lo := 420 * v) (hi := 420 * v + 420) (by omega) (by omega) ec t4, t5⟩
      · obtain ⟨e1, e2, e3, e4, e5⟩ := f4 (b0 + (A.2.2.2 k).1.length) (by omega)
        obtain ⟨t1, t4, t5⟩ := q5
        have y := (z3 (b0 + (A.2.2.2 k).1.length) (by omega) (by omega)).2
        unfold rBl
        rw [e1, e4, e5]
        exact ⟨t1, rSeg_reg (lo := 420 * v) (hi := 420 * v + 420) (by omega) (by omega) ec t4, t5⟩
end
section
/-! ===== the reference's reading, with the account ===== -/
def aText (K S : Nat → Int32) (N : Nat → Int64) : aD := aAll K S N 401 ((0, 0, 0), (0, 0), [], 0, 0) aD0
/-- what reading leaves: the flat that was told, begun; or all as it was -/
def uRd (K S : Nat → Int32) (N : Nat → Int64) (I I' : qMI) : Prop := (zAns (zText K S N) = 0 → ∃ s : Nat, (s = 0 ∨ s = 1) ∧ (I' 292 18).toInt = s ∧ rDf s I' (aText K S N) ∧ ∀ i, i < 97 → I' 323 i = bX (aText K S N) i) ∧ (zAns (zText K S N) ≠ 0 → I' 292 18 = I 292 18 ∧ I' 323 = I 323 ∧ ∀ (v : Nat) (A : aD), (v = 0 ∨ v = 1) → (I 292 18).toInt = v → rDf v I A → rDf v I' A)
theorem rDt_0 {s : Nat} {I : qMI} (e1 : I 301 s = 0) (e4 : I 304 s = 0) (es : I 307 s = 24 ∧ I 308 s = 0 ∧ I 309 s = 0 ∧ I 310 s = 0) (el : ∀ k, k < 5 → I 311 (5 * s + k) = 0 ∧ I 312 (5 * s + k) = 0) : rDt s I aD0 := by
  refine ⟨⟨⟨by rw [e1]; rfl, by decide⟩, fun i p q => by cases q⟩, ⟨⟨by rw [e4]; rfl, by decide⟩, fun i p q => by cases q⟩, fun j a b => ?_, fun k hk => Or.inl ⟨by rw [(el k hk).1, (el k hk).2], rfl⟩⟩
  show I (299 + j) s = if j = 8 then 24 else 0
  have hj : j = 8 ∨ j = 9 ∨ j = 10 ∨ j = 11 := by omega
  rcases hj with rfl | rfl | rfl | rfl
  · exact es.1
  · exact es.2.1
  · exact es.2.2.1
  · exact es.2.2.2
section
variable {l : Launch} {G : qG} {d : Nat} {I J : qMI} {L0 Lc : qML} {R : qMR} {s v : Nat} {T : Nat} {K S : Nat → Int32} {N : Nat → Int64}
theorem uReadEnd (hR : wkR R) (h : yRs s v I J) {M : qMI} {L : qML} {a : Int32} {c br th se : Nat} {z : pZ} (hLC : ∀ k, k ≠ 298 → k ≠ 300 → Lc k = L0 k) (hQ : rQs T K S N s J Lc M L z c br th se) (hw3 : zW z) (hz : z = zText K S N) (hA : pf z = 0 → rDt s M (aText K S N)) (fr : uFr s J M) (hJ : ∀ A, rDf v I A → rDf v J A) : wkB l G (d + 7 + 1) n_X9_read (wkPI R (fun y I' L' => yRp I I' ∧ rRd K S N I L0 y I' L' ∧ uRd K S N I I')) 134 [.ref 292, .int a] [] M L R := by
  obtain ⟨g, gz, hL0, hZ⟩ := hQ
  have hv := h.1.2.1
  have hs := h.1.1
  have hok := g.2.1.1
  have gf := yPS_fields g
  have e18 : M 292 18 = J 292 18 := gf 18 (by decide) (by decide) (by decide) (by decide) (by decide) (by decide) (by decide) (by decide) (by decide) (by decide)
  have e19 : M 292 19 = J 292 19 := gf 19 (by decide) (by decide) (by decide) (by decide) (by decide) (by decide) (by decide) (by decide) (by decide) (by decide)
  obtain ⟨x19, x18⟩ := h.2.2.2.2.2.2.2.1
  have old : zside M v ∧ zreg M v := yF_side h.1.2.2 g.1 h.2.2.2.2.2.2.2.2.2
  have m51 : M 292 51 = I 292 51 := (gf 51 (by decide) (by decide) (by decide) (by decide) (by decide) (by decide) (by decide) (by decide) (by decide) (by decide)).trans (h.2.2.1 51 (by omega))
  have m58 : M 292 58 = I 292 58 := (gf 58 (by decide) (by decide) (by decide) (by decide) (by decide) (by decide) (by decide) (by decide) (by decide) (by decide)).trans (h.2.2.1 58 (by omega))
  have m334 : M 334 = I 334 := (g.1.1 334 (by decide) (by decide)).trans (h.2.1 334 (by decide) (by decide))
  have e13 : M 292 13 = pf z := gz.2.1
  have badz : ∀ (x y : Int32), x = zPlc z → y = zAns z → zAns z ≠ 0 → rRd K S N I L0 y (qUp M 292 17 x) L ∧ uRd K S N I (qUp M 292 17 x) := fun x y ex ey hn => by
    refine ⟨⟨by rw [← hz]; exact ey, by rw [qUp_at, if_pos ⟨rfl, rfl⟩, ← hz]; exact ex, fun k k1 k2 => (hL0 k k2).trans (hLC k k1 k2), fun q => absurd (by rw [hz]; exact q) hn, fun _ => ⟨by rw [qUp_ne (by omega)]; exact m51, by rw [qUp_ne (by omega)]; exact m58, ?_⟩⟩, fun q => absurd (by rw [hz]; exact q) hn, fun _ => ⟨?_, ?_, fun v' A hv' e18' hI => ?_⟩⟩
    · exact (funext fun i => qUp_ne (by omega)).trans m334
    · rw [qUp_ne (by omega), e18]; exact h.2.2.1 18 (by omega)
    · exact (funext fun i => qUp_ne (by omega)).trans ((g.1.1 323 (by decide) (by decide)).trans (h.2.1 323 (by decide) (by decide)))
    · have ev : v' = v := by
        have a := h.2.2.2.2.2.2.2.1.2
        rw [h.2.2.1 18 (by omega), e18'] at a
        omega
      subst ev
      exact rDf_of (rDf_F hs hv h.1.2.2 g.1 fr h.2.2.2.2.2.2.2.2.2.2 (hJ A hI)) (fun y _ _ => funext fun i => qUp_ne (by omega))
  have bad : ∀ x : Int32, yRp I (qUp M 292 17 x) := fun x => yRend (x1 := 0) (w := v) h g (fun k b _ _ _ => funext fun i => qUp_ne (fun q => b q.1)) (fun j b _ _ _ _ => qUp_ne (fun q => b q.2)) ⟨hv, by rw [qUp_ne (by omega), e18]; exact x18, old⟩ (Or.inl (qUp_ne (by omega))) (Or.inl (qUp_ne (by omega)))
  have tail : ∀ x : Int32, x = zPlc z → wkB l G (d + 7 + 1) n_X9_read (wkPI R (fun y I' L' => yRp I I' ∧ rRd K S N I L0 y I' L' ∧ uRd K S N I I')) 164 [.ref 292, .int a] [.int x, .ref 292] M L R := fun x hx => by
    refine w_X9_read_164 (fun f0 => ?_) (fun f1 => w_X9_read_174 ⟨rfl, rfl, _, rfl, bad x, badz _ _ hx ?_ ?_⟩)
    rotate_left
    · rw [qUp_ne (by omega), e13] at f1 ⊢
      unfold zAns
      rw [if_neg (fun q => f1 (by rw [q]; decide))]
    · rw [qUp_ne (by omega), e13] at f1
      have hp : pf z ≠ 0 := fun q => f1 (by rw [q]; decide)
      unfold zAns
      rw [if_neg hp]
      exact hp
    rw [qUp_ne (by omega)] at f0
    have f0 := yf0 hok f0
    have z0 : pf z = 0 := by rw [← e13]; exact f0
    have e15 : M 292 15 = z.2.1.1 := (gz.2.2.2 z0).2.1
    have an : zAns z = z.2.1.1 := by unfold zAns; rw [if_pos z0]
    refine w_X9_read_179 (fun w0 => ?_) (fun w1 => w_X9_read_186 ⟨rfl, rfl, _, rfl, bad x, badz _ _ hx ?_ ?_⟩)
    rotate_left
    · rw [qUp_ne (by omega), e15, an]
    · rw [qUp_ne (by omega), e15] at w1
      rw [an]
      exact fun q => w1 (by rw [q]; decide)
    rw [qUp_ne (by omega), e15] at w0
    have an0 : zAns z = 0 := by
      rw [an]
      rcases hw3 with q | q | q
      · exact q
      · rw [q] at w0; exact absurd w0 (by decide)
      · rw [q] at w0; exact absurd w0 (by decide)
    have pl0 : x = -1 := by
      rw [hx]; unfold zPlc; rw [if_pos z0, if_pos (by rw [← an]; exact an0)]
    have new := yPS_side hs g f0
    have d18 : (qUp (qUp M 292 17 x) 292 18 ((qUp M 292 17 x) 292 19)) 292 18 = M 292 19 := by rw [qUp_at, if_pos ⟨rfl, rfl⟩, qUp_ne (by omega)]
    have d304 : (qUp (qUp M 292 17 x) 292 18 ((qUp M 292 17 x) 292 19)) 304 = M 304 := funext fun i => by rw [qUp_ne (by omega), qUp_ne (by omega)]
    refine w_X9_read_191 (uBegins (d := d + 6) (sn := se) hR hs (by rw [d18, e19]; exact x19) (by rw [d304]; exact g.2.2.2.1.2.1) (by have := g.2.2.2.1; omega)) (fun I1 L1 hq => ?_)
    obtain ⟨rfl, q1, qb⟩ := hq
    refine w_X9_read_203 (uKeeps (d := d + 6) hR) (fun I2 L2 hq => ?_)
    obtain ⟨rfl, q2, -, qk⟩ := hq
    have t17 : ∀ K2 : qMI, yBg (qUp (qUp I2 292 51 0) 292 58 0) K2 → K2 292 17 = x := fun K2 q3 => by
      rw [q3.2 17 (by decide) (by decide) (by decide), qUp_ne (by omega), qUp_ne (by omega), q2.2 17 (by decide) (by decide) (by decide), q1.2 17 (by decide) (by decide) (by decide), qUp_ne (by omega), qUp_at, if_pos ⟨rfl, rfl⟩]
    have goodz : ∀ K2 : qMI, yBg (qUp (qUp I2 292 51 0) 292 58 0) K2 → K2 292 51 = 0 → K2 292 58 = 0 → (∀ i, i < 3 → K2 334 i = 0) → K2 323 = I2 323 → rRd K S N I L0 0 K2 L2 ∧ uRd K S N I K2 := fun K2 q3 z1 z2 z3 z4 => ⟨⟨by rw [← hz]; exact an0.symm, by rw [t17 K2 q3, hx, hz], fun k k1 k2 => (hL0 k k2).trans (hLC k k1 k2), fun _ => ⟨z1, z2, z3⟩, fun q => absurd (by rw [← hz]; exact an0) q⟩, fun _ => by
      have t : yBg (qUp (qUp M 292 17 x) 292 18 ((qUp M 292 17 x) 292 19)) K2 := yBg_tr q1 (yBg_tr q2 (yBg_tr (yBg_tr (yBg_up (Or.inr (Or.inr (Or.inr ⟨rfl, Or.inr (Or.inl rfl)⟩)))) (yBg_up (Or.inr (Or.inr (Or.inr ⟨rfl, Or.inr (Or.inr rfl)⟩))))) q3))
      have oM : ∀ k, k ≠ 292 → (qUp (qUp M 292 17 x) 292 18 ((qUp M 292 17 x) 292 19)) k = M k := fun k b => funext fun i => by rw [qUp_ne (fun q => b q.1), qUp_ne (fun q => b q.1)]
      have dM : rDf s M (aText K S N) := rDt_f (by have := g.2.2.1; omega) (by have := g.2.1.2.2; omega) (hA z0)
      refine ⟨s, hs, ?_, rDf_of dM (fun y y1 y2 => (t.1 y (by omega) (by omega) (by omega) (by omega)).trans (oM y (by omega))), fun i hi => ?_⟩
      · rw [t.2 18 (by decide) (by decide) (by decide), d18, e19]; exact x19
      · rw [z4, qk i hi, qb i hi, ← bRw_X dM]
        have el : se = (aText K S N).2.1.length := by
          have a := dM.2.1.1.1
          have b := g.2.2.2.1.2.1
          omega
        rw [← el]
        unfold bRw
        rw [oM 305 (by decide), oM 306 (by decide), oM 309 (by decide)], fun q => absurd (by rw [← hz]; exact an0) q⟩
    have good : ∀ K2 : qMI, yBg (qUp (qUp I2 292 51 0) 292 58 0) K2 → K2 292 51 = 0 → K2 292 58 = 0 → yRp I K2 := fun K2 q3 z1 z2 => by
      have t : yBg (qUp (qUp M 292 17 x) 292 18 ((qUp M 292 17 x) 292 19)) K2 := yBg_tr q1 (yBg_tr q2 (yBg_tr (yBg_tr (yBg_up (Or.inr (Or.inr (Or.inr ⟨rfl, Or.inr (Or.inl rfl)⟩)))) (yBg_up (Or.inr (Or.inr (Or.inr ⟨rfl, Or.inr (Or.inr rfl)⟩))))) q3))
      exact yRend (x1 := 0) (w := s) h g (fun k b1 b2 b3 b4 => (t.1 k b1 b2 b3 b4).trans (funext fun i => by rw [qUp_ne (fun q => b1 q.1), qUp_ne (fun q => b1 q.1)])) (fun j b1 b2 b3 b4 b5 => (t.2 j b3 b4 b5).trans (by rw [qUp_ne (fun q => b2 q.2), qUp_ne (fun q => b1 q.2)])) ⟨hs, by rw [t.2 18 (by decide) (by decide) (by decide), d18, e19]; exact x19, new⟩ (Or.inr z1) (Or.inr z2)
    have loop : ∀ (m : Nat) (K2 : qMI) (n : Int32), (3 - n.toInt).toNat = m → 0 ≤ n.toInt → yBg (qUp (qUp I2 292 51 0) 292 58 0) K2 → K2 292 51 = 0 → K2 292 58 = 0 → (∀ i : Nat, (i : Int) < n.toInt → K2 334 i = 0) → K2 323 = I2 323 → wkB l G (d + 7 + 1) n_X9_read (wkPI R (fun y I' L' => yRp I I' ∧ rRd K S N I L0 y I' L' ∧ uRd K S N I I')) 219 [.ref 292, .int n] [] K2 L2 R := by
      intro m
      induction m with
      | zero =>
        intro K2 n hm n0 q3 z1 z2 z3 z4
        exact w_X9_read_219 (fun _ => w_X9_read_237 ⟨rfl, rfl, _, rfl, good K2 q3 z1 z2, goodz K2 q3 z1 z2 (fun i hi => z3 i (by omega)) z4⟩) (fun q => absurd (i_le.mpr (by rw [show (3 : Int32).toInt = 3 from rfl]; omega)) q)
      | succ m ih =>
        intro K2 n hm n0 q3 z1 z2 z3 z4
        refine w_X9_read_219 (fun q => w_X9_read_237 ⟨rfl, rfl, _, rfl, good K2 q3 z1 z2, goodz K2 q3 z1 z2 (fun i hi => z3 i (by have := i_le.mp q; rw [show (3 : Int32).toInt = 3 from rfl] at this; omega)) z4⟩) (fun q => ?_)
        have sn : (n + 1).toInt = n.toInt + 1 := i_s (by omega)
        refine w_X9_read_224 hR (vin n0 (by omega)) (ih _ (n + 1) (by omega) (by omega) (yBg_tr q3 (yBg_up (Or.inr (Or.inr (Or.inl rfl))))) (by rw [qUp_ne (by omega)]; exact z1) (by rw [qUp_ne (by omega)]; exact z2) (fun i hi => ?_) ((funext fun i => qUp_ne (by omega)).trans z4))
        rw [qUp_at]
        by_cases q4 : i = n.toNatClampNeg
        · rw [if_pos ⟨rfl, q4⟩]; rfl
        · rw [if_neg (fun x => q4 x.2)]
          exact z3 i (by rw [tcn] at q4; omega)
    exact w_X9_read_207 (loop _ _ 0 rfl (by decide) (yBg_rf _) (by rw [qUp_ne (by omega), qUp_at, if_pos ⟨rfl, rfl⟩]) (by rw [qUp_at, if_pos ⟨rfl, rfl⟩]) (fun i hi => absurd hi (by rw [show (0 : Int32).toInt = 0 from rfl]; omega)) (funext fun i => by rw [qUp_ne (by omega), qUp_ne (by omega)]))
  refine w_X9_read_134 (fun q => ?_) (fun q => w_X9_read_142 (tail _ ?_))
  · have z0 : pf z = 0 := by rw [← e13]; exact yf0 hok q
    obtain ⟨-, e15, e16⟩ := gz.2.2.2 z0
    refine w_X9_read_149 (fun w0 => w_X9_read_163 (tail _ ?_)) (fun w1 => w_X9_read_156 (tail _ ?_))
    · rw [e15] at w0
      unfold zPlc
      rw [if_pos z0, if_pos]
      rcases hw3 with q | q | q
      · exact q
      · rw [q] at w0; exact absurd w0 (by decide)
      · rw [q] at w0; exact absurd w0 (by decide)
    · rw [e15] at w1
      have n0 : z.2.1.1 ≠ 0 := fun q => w1 (by rw [q]; decide)
      unfold zPlc
      rw [if_pos z0, if_neg n0]
      exact (e16 n0).1
  · have hp : pf z ≠ 0 := fun x => q (by rw [e13, x]; decide)
    unfold zPlc
    rw [if_neg hp]
    exact gz.2.2.1 hp
theorem uReadLoop (hR : wkR R) (h : yRs s v I J) (hLC : ∀ k, k ≠ 298 → k ≠ 300 → Lc k = L0 k) (hJ : ∀ A, rDf v I A → rDf v J A) {a : Int32} : ∀ (m : Nat) (M : qMI) (L : qML) (c br th se : Nat) (z : pZ) (f : Nat) (A : aD), (400 - (M 292 11).toInt).toNat = m → rQs T K S N s J Lc M L z c br th se → zW z → zAll K S N f z = zText K S N → (pf z = 0 → 401 ≤ f + pt z) → (pf z = 0 → rDt s M A) → uFr s J M → aAll K S N f z A = aText K S N → wkB l G (d + 7 + 1) n_X9_read (wkPI R (fun y I' L' => yRp I I' ∧ rRd K S N I L0 y I' L' ∧ uRd K S N I I')) 112 [.ref 292, .int a] [] M L R := by
  intro m
  induction m using Nat.strongRecOn with
  | ind m ih =>
    intro M L c br th se z f A hm hQ hw3 hF hf hA fr hAA
    obtain ⟨g, gz, hL0, hZ⟩ := id hQ
    have stop : ¬ (pf z = 0 ∧ ¬ K (pt z) = 0) → z = zText K S N := fun q => by
      rw [← hF]
      cases f with
      | zero => rfl
      | succ f => rw [zAll, if_neg q]
    have stopA : ¬ (pf z = 0 ∧ ¬ K (pt z) = 0) → pf z = 0 → rDt s M (aText K S N) := fun q p => by
      have e : A = aText K S N := by
        rw [← hAA]
        cases f with
        | zero => rfl
        | succ f => rw [aAll, if_neg q]
      rw [← e]
      exact hA p
    refine w_X9_read_112 (fun q => uReadEnd hR h hLC hQ hw3 (stop (fun x => q (by rw [gz.2.1]; exact x.1))) (stopA (fun x => q (by rw [gz.2.1]; exact x.1))) fr hJ) (fun f0 => w_X9_read_119 (P := fun y I' L' => L' = L ∧ I' = M ∧ ((y = 1 ∧ pf z = 0 ∧ K (pt z) = 0) ∨ (y = 0 ∧ ¬ (pf z = 0 ∧ K (pt z) = 0)))) (by have := rIs (l := l) (G := G) (k := 0) (d := d + 6) hR g.2.1.1 gz (by decide); rw [show rK 0 = 0 from rfl] at this; exact this) (fun y I1 L1 hq => ?_))
    obtain ⟨rfl, rfl, hy⟩ := hq
    have z0 : pf z = 0 := by rw [← gz.2.1]; exact f0
    rcases hy with ⟨rfl, -, k0⟩ | ⟨rfl, kn⟩
    · exact w_X9_read_124 (fun _ => uReadEnd hR h hLC hQ hw3 (stop (fun x => x.2 k0)) (stopA (fun x => x.2 k0)) fr hJ) (fun q => absurd q (by decide))
    have kn : K (pt z) ≠ 0 := fun x => kn ⟨z0, x⟩
    refine w_X9_read_124 (fun q => absurd rfl q) (fun _ => w_X9_read_127 (uTellOne (d := d) hR h.1.1 h.2.2.2.2.2.2.2.1.1 hQ z0 kn (hA z0)) (fun I2 L2 hq => w_X9_read_131 ?_))
    obtain ⟨⟨c', br', th', se', hQ', t⟩, hA', fr'⟩ := hq
    obtain ⟨f', rfl⟩ : ∃ f', f = f' + 1 := by
      have h1 := hf z0
      have h2 := (gz.2.2.2 z0).1.2
      have h3 := gz.1.1.2.1
      exact ⟨f - 1, by omega⟩
    rw [zAll, if_pos ⟨z0, kn⟩] at hF
    rw [aAll, if_pos ⟨z0, kn⟩] at hAA
    have hw' := zTell_w (K := K) (S := S) (N := N) hw3
    have hf' : pf (zTell K S N z) = 0 → 401 ≤ f' + pt (zTell K S N z) := fun q => by
      have h1 := hf z0
      have h2 := (hQ'.2.1.2.2.2 q).1.1
      have h3 := (gz.2.2.2 z0).1.1
      have h4 := t (by rw [hQ'.2.1.2.1]; exact q)
      omega
    by_cases x : I2 292 13 = 0
    · have := t x
      have := hQ'.1.2.1.1.1
      exact ih _ (by omega) I2 L2 c' br' th' se' _ f' _ rfl hQ' hw' hF hf' hA' (uFr_tr fr fr') hAA
    · have xp : pf (zTell K S N z) ≠ 0 := by rw [← hQ'.2.1.2.1]; exact x
      refine w_X9_read_112 (fun _ => uReadEnd hR h hLC hQ' hw' ?_ (fun p => absurd p xp) (uFr_tr fr fr') hJ) (fun q => absurd q x)
      rw [← hF]
      cases f' with
      | zero => rfl
      | succ f' => rw [zAll, if_neg (fun q => xp q.1)]
end
section
variable {l : Launch} {G : qG} {d : Nat} {I : qMI} {L L0 : qML} {R : qMR} {T : Nat} {K S : Nat → Int32} {N : Nat → Int64}
theorem uReadMid (hR : wkR R) (h : yRi I) {C : qMI} {L : qML} (hT : rT T K S N C L) (hLC : ∀ k, k ≠ 298 → k ≠ 300 → L k = L0 k) {a : Int32} (oC : ∀ k, k ≠ 292 → k ≠ 294 → k ≠ 295 → k ≠ 296 → k ≠ 297 → C k = I k) (jC : ∀ j, j ≠ 2 → j ≠ 4 → j ≠ 10 → C 292 j = I 292 j) (c2 : C 292 2 = 0) (c4 : C 292 4 = I 292 2) (c10 : 0 ≤ (C 292 10).toInt ∧ (C 292 10).toInt ≤ 401) (ck : ∀ i, i < 403 → 0 ≤ (C 295 i).toInt ∧ (C 295 i).toInt ≤ 42) : wkB l G (d + 7 + 1) n_X9_read (wkPI R (fun y I' L' => yRp I I' ∧ rRd K S N I L0 y I' L' ∧ uRd K S N I I')) 45 [.ref 292, .int a] [] C L R := by
  obtain ⟨h1, -, h3, v, hv, h4, h5⟩ := h
  have c18 : C 292 18 = I 292 18 := jC 18 (by decide) (by decide) (by decide)
  obtain ⟨s, hs, hsv⟩ : ∃ s : Nat, (s = 0 ∨ s = 1) ∧ s + v = 1 := ⟨1 - v, by omega, by omega⟩
  have e18 : (qUp (qUp (qUp (qUp C 292 11 0) 292 12 0) 292 13 0) 292 15 0) 292 18 = I 292 18 := by rw [qUp_ne (by omega), qUp_ne (by omega), qUp_ne (by omega), qUp_ne (by omega)]; exact c18
  have e1 : ((1 : Int32) - I 292 18).toInt = s := by
    rw [i_sub (by rw [show (1 : Int32).toInt = 1 from rfl]; omega) (by rw [show (1 : Int32).toInt = 1 from rfl]; omega), show (1 : Int32).toInt = 1 from rfl]; omega
  -- what stands before plain
  have key : ∀ D : qMI, (∀ k, k ≠ 292 → D k = C k) → (∀ j, j ≠ 11 → j ≠ 12 → j ≠ 13 → j ≠ 15 → j ≠ 19 → j ≠ 20 → D 292 j = C 292 j) → D 292 11 = 0 → D 292 12 = 0 → D 292 13 = 0 → D 292 20 = 0 → (D 292 19).toInt = s → D 292 15 = 0 → ∀ E : qMI, ∀ L1 : qML, L1 = L → yPl s D E ∧ uPv s D E → wkB l G (d + 7 + 1) n_X9_read (wkPI R (fun y I' L' => yRp I I' ∧ rRd K S N I L0 y I' L' ∧ uRd K S N I I')) 88 [.ref 292, .int a] [] E L1 R := by
    intro D o f f11 f12 f13 f20 f19 f15 E L1 eL p
    obtain ⟨⟨p1, p2, p3, p4, p5⟩, p6, p7⟩ := p
    have e19 : E 292 19 = D 292 19 := p2 19
    have m130 : ((130 : Int32) * E 292 19).toInt = 130 * (s : Int) := by rw [i_mul (by rw [e19, f19, show (130 : Int32).toInt = 130 from rfl]; omega) (by rw [e19, f19, show (130 : Int32).toInt = 130 from rfl]; omega), e19, f19]; rfl
    have m420 : ((420 : Int32) * E 292 19).toInt = 420 * (s : Int) := by rw [i_mul (by rw [e19, f19, show (420 : Int32).toInt = 420 from rfl]; omega) (by rw [e19, f19, show (420 : Int32).toInt = 420 from rfl]; omega), e19, f19]; rfl
    refine w_X9_read_88 ?_
    rw [show (qUp E 292 34 (130 * (E 292 19))) 292 19 = E 292 19 from qUp_ne (by omega)]
    generalize hF : qUp (qUp E 292 34 (130 * (E 292 19))) 292 40 (420 * (E 292 19)) = F
    have oF : ∀ k, k ≠ 292 → F k = E k := fun k b => by rw [← hF]; exact funext fun i => by rw [qUp_ne (fun q => b q.1), qUp_ne (fun q => b q.1)]
    have jF : ∀ j, j ≠ 34 → j ≠ 40 → F 292 j = D 292 j := fun j b1 b2 => by rw [← hF, qUp_ne (fun q => b2 q.2), qUp_ne (fun q => b1 q.2)]; exact p2 j
    have jFC : ∀ j, j ≠ 34 → j ≠ 40 → j ≠ 11 → j ≠ 12 → j ≠ 13 → j ≠ 15 → j ≠ 19 → j ≠ 20 → F 292 j = C 292 j := fun j b1 b2 b3 b4 b5 b6 b7 b8 => (jF j b1 b2).trans (f j b3 b4 b5 b6 b7 b8)
    have F34 : (F 292 34).toInt = (130 * s : Nat) := by rw [← hF, qUp_ne (by omega), qUp_at, if_pos ⟨rfl, rfl⟩, m130]; omega
    have F40 : (F 292 40).toInt = (420 * s : Nat) := by rw [← hF, qUp_at, if_pos ⟨rfl, rfl⟩, m420]; omega
    have hu : ∀ x ∈ zUN, D x = I x := fun x hx => by
      simp only [zUN, List.mem_cons, List.not_mem_nil, or_false] at hx
      exact (o x (by omega)).trans (oC x (by omega) (by omega) (by omega) (by omega) (by omega))
    have huF : ∀ x ∈ zUN, F x = E x := fun x hx => by
      simp only [zUN, List.mem_cons, List.not_mem_nil, or_false] at hx
      exact oF x (by omega)
    have gE := yF_side (s := s) (s' := v) (by omega) p1 ⟨zside_congr hu h5.1, zreg_congr hu h5.2⟩
    have k301 : F 301 v = I 301 v := by rw [oF 301 (by decide), (p1.2.1 v (by omega)).1, o 301 (by decide), oC 301 (by decide) (by decide) (by decide) (by decide) (by decide)]
    have k304 : F 304 v = I 304 v := by rw [oF 304 (by decide), (p1.2.1 v (by omega)).2, o 304 (by decide), oC 304 (by decide) (by decide) (by decide) (by decide) (by decide)]
    have k295 : F 295 = C 295 := by rw [oF 295 (by decide), p1.1 295 (by decide) (by decide), o 295 (by decide)]
    have F2 : F 292 2 = C 292 2 := jFC 2 (by decide) (by decide) (by decide) (by decide) (by decide) (by decide) (by decide) (by decide)
    have F4 : F 292 4 = C 292 4 := jFC 4 (by decide) (by decide) (by decide) (by decide) (by decide) (by decide) (by decide) (by decide)
    have F10 : F 292 10 = C 292 10 := jFC 10 (by decide) (by decide) (by decide) (by decide) (by decide) (by decide) (by decide) (by decide)
    have F18 : F 292 18 = C 292 18 := jFC 18 (by decide) (by decide) (by decide) (by decide) (by decide) (by decide) (by decide) (by decide)
    refine uReadLoop (T := T) (K := K) (S := S) (N := N) (L0 := L0) (Lc := L) (s := s) (v := v) (J := F) hR ⟨⟨hs, hv, by omega⟩, fun k b1 b2 => ?_, fun j b => ?_, F2.trans c2, by rw [F4, c4]; exact h1, by rw [F10]; exact c10, by rw [k295]; exact ck, ⟨by rw [jF 19 (by decide) (by decide)]; exact f19, by rw [F18, c18]; exact h4⟩, by rw [k301, k304]; exact h3 v (by omega), zside_congr huF gE.1, zreg_congr huF gE.2⟩ hLC (fun A hA => ?_) _ F L1 0 (130 * s) 0 0 ((0, 0, 0), (0, 0), [], 0, 0) 401 aD0 rfl ⟨(yPS_go (yF_rf s F) (by rw [jF 11 (by decide) (by decide)]; exact f11) (by rw [jF 12 (by decide) (by decide)]; exact f12) (by rw [jF 13 (by decide) (by decide)]; exact f13) (by rw [jF 20 (by decide) (by decide)]; exact f20) F34 F40 (by rw [oF 301 (by decide)]; exact p3) (by rw [oF 304 (by decide)]; exact p4) (fun k hk => by rw [oF 311 (by decide), oF 312 (by decide)]; exact p5 k hk)), ?_, fun k hk => ?_, fun _ => ⟨⟨rfl, rfl⟩, fun x => ⟨fun q => (by simp at q), fun ⟨k, q, _⟩ => absurd q (by rw [jF 20 (by decide) (by decide), f20, show (0 : Int32).toInt = 0 from rfl]; omega)⟩⟩⟩ (Or.inl rfl) rfl (fun _ => by show 401 ≤ 401 + 0; omega) (fun _ => rDt_0 (by rw [oF 301 (by decide)]; exact p3) (by rw [oF 304 (by decide)]; exact p4) (by rw [oF 307 (by decide), oF 308 (by decide), oF 309 (by decide), oF 310 (by decide)]; exact p6) (fun k hk => by rw [oF 311 (by decide), oF 312 (by decide)]; exact p5 k hk)) (uFr_o (fun _ _ _ => rfl)) rfl
    · exact (oF k b1).trans ((p1.1 k b1 (by omega)).trans ((o k b1).trans (oC k b1 (by omega) (by omega) (by omega) (by omega))))
    · unfold yRj at b
      exact (jFC j (by omega) (by omega) (by omega) (by omega) (by omega) (by omega) (by omega) (by omega)).trans (jC j (by omega) (by omega) (by omega))
    · have oDI : ∀ x, 301 ≤ x → x ≤ 319 → D x = I x := fun x x1 x2 => (o x (by omega)).trans (oC x (by omega) (by omega) (by omega) (by omega) (by omega))
      exact rDf_of (rDf_F hs hv (by omega) p1 p7 (zreg_congr hu h5.2) (rDf_of hA oDI)) (fun x x1 x2 => oF x (by omega))
    · have k296 : F 296 = C 296 := by rw [oF 296 (by decide), p1.1 296 (by decide) (by decide), o 296 (by decide)]
      have k297 : F 297 = C 297 := by rw [oF 297 (by decide), p1.1 297 (by decide) (by decide), o 297 (by decide)]
      refine ⟨rT_of hT k295 k296 k297 (by rw [eL]), (jF 13 (by decide) (by decide)).trans f13, fun q => absurd rfl q, fun _ => ⟨⟨by rw [jF 11 (by decide) (by decide), f11]; rfl, hT.1.1⟩, (jF 15 (by decide) (by decide)).trans f15, fun q => absurd rfl q⟩⟩
    · rw [eL]
  refine w_X9_read_45 (uPlain (d := d + 6) (s := s) hR hs (by rw [qUp_ne (by omega), qUp_at, if_pos ⟨rfl, rfl⟩, e18]; exact e1)) (fun E L1 p => key _ (fun k b => ?_) (fun j b1 b2 b3 b4 b5 b6 => ?_) ?_ ?_ ?_ ?_ ?_ ?_ E L1 p.1 p.2)
  · exact funext fun i => by rw [qUp_ne (fun q => b q.1), qUp_ne (fun q => b q.1), qUp_ne (fun q => b q.1), qUp_ne (fun q => b q.1), qUp_ne (fun q => b q.1), qUp_ne (fun q => b q.1)]
  · rw [qUp_ne (fun q => b6 q.2), qUp_ne (fun q => b5 q.2), qUp_ne (fun q => b4 q.2), qUp_ne (fun q => b3 q.2), qUp_ne (fun q => b2 q.2), qUp_ne (fun q => b1 q.2)]
  · rw [qUp_ne (by omega), qUp_ne (by omega), qUp_ne (by omega), qUp_ne (by omega), qUp_ne (by omega), qUp_at, if_pos ⟨rfl, rfl⟩]
  · rw [qUp_ne (by omega), qUp_ne (by omega), qUp_ne (by omega), qUp_ne (by omega), qUp_at, if_pos ⟨rfl, rfl⟩]
  · rw [qUp_ne (by omega), qUp_ne (by omega), qUp_ne (by omega), qUp_at, if_pos ⟨rfl, rfl⟩]
  · rw [qUp_at, if_pos ⟨rfl, rfl⟩]
  · rw [qUp_ne (by omega), qUp_at, if_pos ⟨rfl, rfl⟩, e18]; exact e1
  · rw [qUp_ne (by omega), qUp_ne (by omega), qUp_at, if_pos ⟨rfl, rfl⟩]
theorem uRead (hR : wkR R) {w : Nat → Int64} (hw : ∀ a b, a < 23 → b < 23 → w a = w b → a = b) (hk9 : ∀ j, j < 23 → L 299 j = w j) (hS : pSpec w (fun i => vp_nar .byte (I 293 i) &&& 255) (I 292 2).toInt.toNat K S N) (h : yRi I) : wkI l G (d + 8) n_X9_read [.ref 292] I L R (fun y I' L' => yRp I I' ∧ rRd K S N I L y I' L' ∧ uRd K S N I I') := by
  obtain ⟨h1, h2, -⟩ := id h
  have loop : ∀ (m : Nat) (J : qMI) (n : Int32), ((I 292 2).toInt - n.toInt).toNat = m → 0 ≤ n.toInt → (∀ k, k ≠ 294 → J k = (qUp I 292 4 (I 292 2)) k) → (∀ i : Nat, (i : Int) < n.toInt → J 294 i = vp_nar .byte (I 293 i)) → wkB l G (d + 7 + 1) n_X9_read (wkPI R (fun y I' L' => yRp I I' ∧ rRd K S N I L y I' L' ∧ uRd K S N I I')) 10 [.ref 292, .int n] [] J L R := by
    intro m
    induction m using Nat.strongRecOn with
    | ind m ih =>
      intro J n hm n0 o hb
      have o292 : J 292 = (qUp I 292 4 (I 292 2)) 292 := o 292 (by decide)
      have j4 : J 292 4 = I 292 2 := by rw [o292, qUp_at, if_pos ⟨rfl, rfl⟩]
      have oJ : ∀ k, k ≠ 292 → k ≠ 294 → J k = I k := fun k b1 b2 => by rw [o k b2]; exact funext fun i => qUp_ne (fun q => b1 q.1)
      refine w_X9_read_10 (fun q => ?_) (fun q => ?_)
      · have q := i_le.mp q
        rw [j4] at q
        have esz : rSz (qUp J 292 2 0) = (I 292 2).toInt.toNat := by
          unfold rSz
          rw [qUp_ne (by omega), j4]
        have eby : ∀ i, i < (I 292 2).toInt.toNat → rBy (qUp J 292 2 0) i = vp_nar .byte (I 293 i) &&& 255 := fun i hi => by
          unfold rBy
          rw [qUp_ne (by omega), hb i (by omega)]
        have hS' : pSpec w (rBy (qUp J 292 2 0)) (rSz (qUp J 292 2 0)) K S N := by
          rw [esz]
          exact pSpec_congr (fun _ _ => rfl) eby hS
        refine w_X9_read_36 (rCut (d := d + 4) (w := w) hR hw hk9 (by rw [qUp_ne (by omega), j4]; exact h1) (fun i hi => by rw [qUp_ne (by omega), oJ 295 (by decide) (by decide)]; exact h2 i hi)) (fun C L1 hq => ?_)
        obtain ⟨k, ⟨⟨q1, q2, q3⟩, qL, q10, qT⟩, k1, k4, kE⟩ := hq
        obtain ⟨T, ⟨t1, t2⟩, t3, t4⟩ := pFirst k k1 k4 kE
        refine uReadMid (d := d) (T := T) (K := K) (S := S) (N := N) (L0 := L) hR h ?_ (fun k b1 _ => qL k b1) (fun k b1 b2 b3 b4 b5 => ?_) (fun j b1 b2 b3 => ?_) ?_ ?_ (by omega) q3
        · refine ⟨⟨t1, by omega, t3.imp id (fun x => ?_)⟩, fun j hj => ?_, fun j hj => ?_⟩
          · rw [(hS' (T - 1) (by omega)).1, x]
            exact pKd_end (Nat.le_refl _)
          · obtain ⟨a1, a2, a3, a4⟩ := qT j (by omega)
            obtain ⟨b1, b2, b3⟩ := hS' j (by omega)
            rw [← b1] at a1 a3 a4
            refine ⟨by rw [b1]; exact pKd_v, a1, i_eq.mpr (by rw [a2, b2]), fun x => ?_, fun x => ?_⟩
            · rw [a3 x, b3 (Or.inl x)]
            · rw [a4 x, b3 (Or.inr x)]
          · have x := pSt_lt (t4 j hj)
            rw [(hS' j (by omega)).2.1, (hS' (j + 1) (by omega)).2.1]
            omega
        · rw [q1 k b1 b3 b4 b5, ← oJ k b1 b2]
          exact funext fun i => qUp_ne (fun q => b1 q.1)
        · rw [q2 j b3, qUp_ne (fun q => b1 q.2), o292, qUp_ne (fun q => b2 q.2)]
        · rw [q2 2 (by decide), qUp_at, if_pos ⟨rfl, rfl⟩]
        · rw [q2 4 (by decide), qUp_ne (by omega)]; exact j4
      · have lt : n.toInt < (I 292 2).toInt := by
          have : ¬ _ := fun z => q (i_le.mpr z)
          rw [j4] at this
          omega
        have vn : vp_in n 2000 := vin n0 (by omega)
        have sn : (n + 1).toInt = n.toInt + 1 := i_s (by omega)
        refine w_X9_read_18 hR vn vn (ih _ (by omega) _ (n + 1) rfl (by omega) (fun k b => by rw [← o k b]; exact funext fun i => qUp_ne (fun q => b q.1)) (fun i hi => ?_))
        rw [qUp_at, oJ 293 (by decide) (by decide)]
        by_cases x : i = n.toNatClampNeg
        · rw [if_pos ⟨rfl, x⟩, x]
        · rw [if_neg (fun y => x y.2)]
          exact hb i (by rw [tcn] at x; omega)
  exact wkC_of 1 (by decide) (Nat.le_of_ble_eq_true rfl) (w_X9_read_0 (loop _ _ 0 rfl (by decide) (fun _ _ => rfl) (fun i hi => absurd hi (by rw [show (0 : Int32).toInt = 0 from rfl]; omega))))
end
end
