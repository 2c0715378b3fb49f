/-! ===== the reference's terms and laws, exact ===== -/
theorem rK_law : rK 139 = 31 ∧ rK 60 = 13 ∧ rK 140 = 32 ∧ rK 141 = 33 := by decide +kernel
section
variable {l : Launch} {G : qG} {d : Nat} {I : qMI} {L : qML} {R : qMR} {sb bb : Nat} {T : Nat} {K S : Nat → Int32} {N : Nat → Int64} {z F : pZ}
theorem rG_c {k i : Nat} {x : Int32} (hk : k ≠ 292 ∧ k ≠ 295 ∧ k ≠ 296 ∧ k ≠ 297) (h : rG T K S N I L z) : rG T K S N (qUp I k i x) L z := rG_of h ⟨funext fun i => qUp_ne (by omega), funext fun i => qUp_ne (by omega), funext fun i => qUp_ne (by omega), rfl⟩ (fun i _ => qUp_ne (by omega))
theorem zIfs_no {n : Nat} {z : pZ} (h : ¬ (pf z = 0 ∧ K (pt z) = 139)) : zIfs K S n z = z := by
  cases n with
  | zero => rw [zIfs, if_neg h]
  | succ n => rw [zIfs, if_neg h]
theorem zIfs_yes {i : Nat} (hi : i < 4) {z : pZ} (h : pf z = 0) (h2 : K (pt z) = 139) : zIfs K S (4 - i) z = zIfs K S (4 - (i + 1)) (zIf K S z) := by
  rw [show 4 - i = (4 - (i + 1)) + 1 by omega, zIfs, if_pos ⟨h, h2⟩]
theorem zMust_f {k : Int32} {z : pZ} (h : pf z ≠ 0) : zMust K S k z = z := by unfold zMust; exact zTake_f h
theorem rLaw_full {i : Nat} (hi : i = 4) {z : pZ} (h : pf z = 0) (h2 : K (pt z) = 139) (hF : zMust K S 59 (zEx K S (zIfs K S (4 - i) z)) = F) : zFail S 2 z = F := by
  have hn : pf (zFail S 2 z) ≠ 0 := zFail_n (by decide)
  rw [hi, show 4 - 4 = 0 from rfl, zIfs, if_pos ⟨h, h2⟩] at hF
  have e : zIf K S (zFail S 2 z) = zFail S 2 z := by
    unfold zIf
    rw [zTake_f hn, zEx_f hn, zMust_f hn, zEx_f hn, zMust_f hn, zEx_f hn, zMust_f hn]
  rw [e, zEx_f hn, zMust_f hn] at hF
  exact hF
/-- a term: branch br, its row ends where the code then ends -/
theorem rTerm (hR : wkR R) (hsb : sb = 0 ∨ sb = 420) {c br : Nat} (h : yCS sb c I) (g : rG T K S N I L z) (hb : (I 292 34).toInt = br) (hbb : bb ≤ br ∧ br < bb + 130 ∧ bb ≤ 130) : wkV l G (d + 5) n_X9_term [.ref 292] I L R (fun I' L' => L' = L ∧ rG T K S N I' L' (zEx K S z) ∧ yL sb bb (sb + c) br I I' ∧ yM I I' ∧ (I' 292 34).toInt = br + 1 ∧ (I' 313 br = I 313 br ∧ I' 314 br = I 314 br ∧ I' 315 br = I 315 br ∧ I' 316 br = I 292 40 ∧ I' 317 br = I' 292 40) ∧ ∃ c', c ≤ c' ∧ yCS sb c' I' ∧ (I' 292 13 = 0 → (I 292 11).toInt + 1 ≤ (I' 292 11).toInt ∧ zseg I' (I' 316 br) (I' 317 br))) := by
  have hin : vp_in (I 292 34) 260 := vin (by omega) (by omega)
  have eb : (I 292 34).toNatClampNeg = br := by rw [tcn]; omega
  have f1 : ∀ j, (qUp I 316 br (I 292 40)) 292 j = I 292 j := fun j => qUp_ne (by omega)
  have h' := yCS_of (J := qUp I 316 br (I 292 40)) h (fun j _ => f1 j)
  -- from 24 on
  have fin : ∀ (I2 : qMI) (c2 : Nat), rG T K S N I2 L (zEx K S z) → yE sb (sb + c) (qUp I 316 br (I 292 40)) I2 → yM I I2 → c ≤ c2 → yCS sb c2 I2 → (I2 292 13 = 0 → (I 292 11).toInt + 1 ≤ (I2 292 11).toInt ∧ zseg I2 (I 292 40) (I2 292 40)) → wkB l G (d + 4 + 1) n_X9_term (wkPV R (fun I' L' => L' = L ∧ rG T K S N I' L' (zEx K S z) ∧ yL sb bb (sb + c) br I I' ∧ yM I I' ∧ (I' 292 34).toInt = br + 1 ∧ (I' 313 br = I 313 br ∧ I' 314 br = I 314 br ∧ I' 315 br = I 315 br ∧ I' 316 br = I 292 40 ∧ I' 317 br = I' 292 40) ∧ ∃ c', c ≤ c' ∧ yCS sb c' I' ∧ (I' 292 13 = 0 → (I 292 11).toInt + 1 ≤ (I' 292 11).toInt ∧ zseg I' (I' 316 br) (I' 317 br)))) 24 [.ref 292] [] I2 L R := by
    intro I2 c2 g2 hE hM hcc hC hz
    have e34 : I2 292 34 = I 292 34 := (hE.2.2 34 (by decide) (by decide) (by decide) (by decide) (by decide) (by decide) (by decide) (by decide)).trans (f1 34)
    refine w_X9_term_24 hR (by rw [e34]; exact hin) ⟨rfl, rfl, rfl, rfl, ?_⟩
    rw [show (qUp I2 317 (I2 292 34).toNatClampNeg (I2 292 40)) 292 34 = I2 292 34 from qUp_ne (by omega), e34, eb]
    have f2 : ∀ j, j ≠ 34 → (qUp (qUp I2 317 br (I2 292 40)) 292 34 (I 292 34 + 1)) 292 j = I2 292 j := fun j a => by rw [qUp_ne (fun q => a q.2), qUp_ne (by omega)]
    have o2 : ∀ k i, k ≠ 292 → ¬ (k = 317 ∧ i = br) → (qUp (qUp I2 317 br (I2 292 40)) 292 34 (I 292 34 + 1)) k i = I2 k i := fun k i a b => by rw [qUp_ne (fun q => a q.1), qUp_ne b]
    have o1 : ∀ k i, k ≠ 292 → k ≠ 318 → k ≠ 319 → k ≠ 320 → ¬ (k = 316 ∧ i = br) → I2 k i = I k i := fun k i a b c d e => by rw [hE.1 k a b c d, qUp_ne e]
    have e316 : I2 316 br = I 292 40 := by rw [hE.1 316 (by decide) (by decide) (by decide) (by decide), qUp_at, if_pos ⟨rfl, rfl⟩]
    have e317 : (qUp (qUp I2 317 br (I2 292 40)) 292 34 (I 292 34 + 1)) 317 br = I2 292 40 := by rw [qUp_ne (by omega), qUp_at, if_pos ⟨rfl, rfl⟩]
    refine ⟨rG_f (by omega) (rG_c (by omega) g2), yL_tr (Nat.le_refl _) (Nat.le_refl _) (yL_b (k := 316) (by omega) (by omega)) (yL_tr (Nat.le_refl _) (Nat.le_refl _) (yL_e hE) (yL_tr (Nat.le_refl _) (Nat.le_refl _) (yL_b (k := 317) (by omega) (by omega)) yL_34)), yM_tr hM (yM_of (f2 11 (by decide)) (f2 13 (by decide))), ?_, ⟨?_, ?_, ?_, ?_, ?_⟩, c2, hcc, yCS_of hC (fun j hj => f2 j (by omega)), fun q => ?_⟩
    · rw [qUp_at, if_pos ⟨rfl, rfl⟩, i_s (by omega), hb]
    · rw [o2 _ _ (by decide) (by omega), o1 _ _ (by decide) (by decide) (by decide) (by decide) (by omega)]
    · rw [o2 _ _ (by decide) (by omega), o1 _ _ (by decide) (by decide) (by decide) (by decide) (by omega)]
    · rw [o2 _ _ (by decide) (by omega), o1 _ _ (by decide) (by decide) (by decide) (by decide) (by omega)]
    · rw [o2 _ _ (by decide) (by omega), e316]
    · rw [e317, f2 40 (by decide)]
    · rw [f2 13 (by decide)] at q
      obtain ⟨z1, z2⟩ := hz q
      rw [f2 11 (by decide), e317, o2 316 br (by decide) (by omega), e316]
      refine ⟨z1, fun hlt => ?_⟩
      obtain ⟨w1, w2⟩ := z2 hlt
      refine ⟨w1, zrpn_congr (fun i _ _ => ⟨o2 318 i (by decide) (by omega), o2 319 i (by decide) (by omega)⟩) w2⟩
  refine wkC_of 0 (by decide) (Nat.le_of_ble_eq_true rfl) (w_X9_term_0 hR hin ?_ ?_) <;> rw [eb, f1]
  · exact fun q => fin _ c (by rw [zEx_f (by rw [← g.2.1]; exact q)]; exact rG_c (by omega) g) (yE_rf _ _ _) (yM_of (f1 11) (f1 13)) (Nat.le_refl _) h' (fun z => absurd z (by rw [f1]; exact q))
  · refine fun q => w_X9_term_20 (rExprC (d := d) hR hsb h' (rG_c (by omega) g)) (fun I2 L2 hq => ?_)
    obtain ⟨rfl, hE, hM, ⟨c2, hcc, hC, hz⟩, hg⟩ := hq
    refine fin I2 c2 hg hE (yM_tr (yM_of (f1 11) (f1 13)) hM) hcc hC (fun z => ?_)
    have := hz z
    rw [f1, f1] at this
    exact this
end
section
variable {l : Launch} {G : qG} {d : Nat} {I0 : qMI} {L : qML} {R : qMR} {sb bb : Nat} {T : Nat} {K S : Nat → Int32} {N : Nat → Int64} {z F : pZ}
theorem rLawEnd (hR : wkR R) (hsb : (sb = 0 ∧ bb = 0) ∨ (sb = 420 ∧ bb = 130)) {c0 b0 at_ c br : Nat} {k n : Int32} {J : qMI} (hb0 : bb ≤ b0) (hat : vp_in (5 * I0 292 19 + k) 10) (eat : (5 * I0 292 19 + k).toNatClampNeg = at_) (h : yLI sb bb c0 b0 I0 J c br) (g : rG T K S N J L z) (hF : zMust K S 59 (zEx K S z) = F) : wkB l G (d + 5 + 1) n_X9_tellLaw (wkPV R (fun I' L' => L' = L ∧ rG T K S N I' L' F ∧ yLP sb bb c0 b0 at_ I0 I')) 129 [.ref 292, .int k, .int (I0 292 34), .int n] [] J L R := by
  obtain ⟨h1, h2, ⟨h3, h4, h5⟩, h6, h7, h8⟩ := h
  have hsb' : sb = 0 ∨ sb = 420 := by omega
  have hin : vp_in (J 292 34) 260 := vin (by omega) (by omega)
  have eb : (J 292 34).toNatClampNeg = br := by rw [tcn]; omega
  have f1 : ∀ j, (qUp J 313 br (vp_nar .boolean 0)) 292 j = J 292 j := fun j => qUp_ne (by omega)
  refine w_X9_tellLaw_129 hR hin ?_ ?_ (P := fun I' L' => L' = L ∧ rG T K S N I' L' (zEx K S z) ∧ yL sb bb (sb + c) br (qUp J 313 br (vp_nar .boolean 0)) I' ∧ yM (qUp J 313 br (vp_nar .boolean 0)) I' ∧ (I' 292 34).toInt = br + 1 ∧ (I' 313 br = (qUp J 313 br (vp_nar .boolean 0)) 313 br ∧ I' 314 br = (qUp J 313 br (vp_nar .boolean 0)) 314 br ∧ I' 315 br = (qUp J 313 br (vp_nar .boolean 0)) 315 br ∧ I' 316 br = (qUp J 313 br (vp_nar .boolean 0)) 292 40 ∧ I' 317 br = I' 292 40) ∧ ∃ c', c ≤ c' ∧ yCS sb c' I' ∧ (I' 292 13 = 0 → ((qUp J 313 br (vp_nar .boolean 0)) 292 11).toInt + 1 ≤ (I' 292 11).toInt ∧ zseg I' (I' 316 br) (I' 317 br)))
  · rw [eb]
    exact rTerm (d := d) hR hsb' (yCS_of h2 (fun j _ => f1 j)) (rG_c (by omega) g) (by rw [f1]; exact h3) (by omega)
  · intro J2 L2 hq
    obtain ⟨rfl, g2, q1, q2, q3, ⟨q4, -, -, q5, q6⟩, c2, q7, q8, q9⟩ := hq
    rw [qUp_at, if_pos ⟨rfl, rfl⟩] at q4
    rw [f1] at q5 q9
    refine w_X9_tellLaw_143 (rMust (k := 59) (d := d + 2) hR q8.1 g2 (by decide) (by decide)) (fun J3 L3 hq => ?_)
    obtain ⟨rfl, hN, -, g3⟩ := hq
    rw [hF] at g3
    have hC3 := yCS_s q8 hN.1
    have e34 : J3 292 34 = J2 292 34 := hN.1.1.2 34 (by decide) (by decide) (by decide) (by decide) (by decide)
    have e40 : J3 292 40 = J2 292 40 := hN.1.1.2 40 (by decide) (by decide) (by decide) (by decide) (by decide)
    have hL3 : yL sb bb (sb + c0) b0 I0 J3 := yL_tr (c1 := sb + c) (b1 := br) (by omega) h4 h1 (yL_tr (Nat.le_refl _) (Nat.le_refl _) (yL_b (k := 313) (by omega) (by omega)) (yL_tr (Nat.le_refl _) (Nat.le_refl _) q1 (yL_t hN.1.1)))
    have hM3 : yM I0 J3 := yM_tr h6 (yM_tr (yM_of (f1 11) (f1 13)) (yM_tr q2 (yM_s hN.1)))
    have hb3 : (J3 292 34).toInt = (br + 1 : Nat) := by rw [e34, q3]; omega
    refine w_X9_tellLaw_148 (fun hf => ?_) (fun hf => w_X9_tellLaw_155 ⟨rfl, rfl, rfl, rfl, g3, c2, br + 1, hC3, ⟨hb3, by omega, by omega⟩, hM3, by omega, Or.inl ⟨fun z => hf (by rw [z]; decide), hL3⟩⟩)
    have f3 : J3 292 13 = 0 := by
      have a := hC3.1.2.1
      have b := i_le.mp hf
      rw [show (0 : Int32).toInt = 0 from rfl] at b
      exact i_eq.mpr (by rw [show (0 : Int32).toInt = 0 from rfl]; omega)
    have f2 : J2 292 13 = 0 := yS_f0 hN.1 f3
    have f0 : J 292 13 = 0 := by rw [← f1 13]; exact yM_f0 q2 f2
    obtain ⟨t1, t2, hB⟩ := h8 f0
    obtain ⟨t3, z3⟩ := q9 f2
    have t4 := hN.2 f3
    have e19 : J3 292 19 = I0 292 19 := hL3.2.2.2 19 (by decide) (by decide) (by decide) (by decide) (by decide) (by decide) (by decide) (by decide) (by decide)
    refine w_X9_tellLaw_156 hR (by rw [e19]; exact hat) (by rw [qUp_ne (by omega), e19]; exact hat) ⟨rfl, rfl, rfl, rfl, ?_⟩
    rw [show (qUp J3 311 (5 * J3 292 19 + k).toNatClampNeg (I0 292 34)) 292 19 = J3 292 19 from qUp_ne (by omega), show (qUp J3 311 (5 * J3 292 19 + k).toNatClampNeg (I0 292 34)) 292 34 = J3 292 34 from qUp_ne (by omega), e19, eat]
    have fz : ∀ j, (qUp (qUp J3 311 at_ (I0 292 34)) 312 at_ (J3 292 34)) 292 j = J3 292 j := fun j => by rw [qUp_ne (by omega), qUp_ne (by omega)]
    have oz : ∀ k, k ≠ 311 → k ≠ 312 → (qUp (qUp J3 311 at_ (I0 292 34)) 312 at_ (J3 292 34)) k = J3 k := fun k a b => funext fun i => by rw [qUp_ne (fun q => b q.1), qUp_ne (fun q => a q.1)]
    refine ⟨rG_c (by omega) (rG_c (by omega) g3), c2, br + 1, yCS_of hC3 (fun j _ => fz j), ⟨by rw [fz]; exact hb3, by omega, by omega⟩, yM_tr hM3 (yM_of (fz 11) (fz 13)), by omega, Or.inr ⟨by rw [fz]; exact f3, ⟨J3, hL3, by rw [fz]⟩, by rw [fz]; omega, by rw [fz]; omega, fun b hb1 hb2 => ?_⟩⟩
    refine yB_congr (I := J3) (C := sb + c2) (Nat.le_refl _) (fun i _ => ⟨by rw [oz 318 (by decide) (by decide)], by rw [oz 319 (by decide) (by decide)]⟩) ⟨by rw [oz 313 (by decide) (by decide)], by rw [oz 314 (by decide) (by decide)], by rw [oz 315 (by decide) (by decide)], by rw [oz 316 (by decide) (by decide)], by rw [oz 317 (by decide) (by decide)]⟩ ?_
    have o3 : ∀ k, k ≠ 292 → J3 k = J2 k := hN.1.1.1
    by_cases hbr : b = br
    · subst hbr
      refine yB_congr (I := J2) (C := sb + c2) (Nat.le_refl _) (fun i _ => ⟨by rw [o3 318 (by decide)], by rw [o3 319 (by decide)]⟩) ⟨by rw [o3 313 (by decide)], by rw [o3 314 (by decide)], by rw [o3 315 (by decide)], by rw [o3 316 (by decide)], by rw [o3 317 (by decide)]⟩ ⟨fun z => absurd (q4.trans rfl) z, z3, by rw [q5, h2.2.2.1]; omega, ?_⟩
      rw [q6, q8.2.2.1]
      exact Int.le_refl _
    · have hL : yL sb bb (sb + c) br J J3 := yL_tr (Nat.le_refl _) (Nat.le_refl _) (yL_b (k := 313) (by omega) (by omega)) (yL_tr (Nat.le_refl _) (Nat.le_refl _) q1 (yL_t hN.1.1))
      exact yB_congr (by omega) (fun i hi => hL.2.2.1 i (Or.inl hi)) (hL.2.1 b (Or.inl (by omega))) (hB b hb1 (by omega))
theorem rLawLoop (hR : wkR R) (hsb : (sb = 0 ∧ bb = 0) ∨ (sb = 420 ∧ bb = 130)) {c0 b0 at_ : Nat} {k : Int32} (hb0 : bb ≤ b0) (hat : vp_in (5 * I0 292 19 + k) 10) (eat : (5 * I0 292 19 + k).toNatClampNeg = at_) : ∀ (m : Nat) (J : qMI) (c br : Nat) (n : Int32) (i : Nat) (z : pZ), (400 - (J 292 11).toInt).toNat = m → yLI sb bb c0 b0 I0 J c br → rG T K S N J L z → n.toInt = i → i ≤ 4 → zMust K S 59 (zEx K S (zIfs K S (4 - i) z)) = F → wkB l G (d + 5 + 1) n_X9_tellLaw (wkPV R (fun I' L' => L' = L ∧ rG T K S N I' L' F ∧ yLP sb bb c0 b0 at_ I0 I')) 12 [.ref 292, .int k, .int (I0 292 34), .int n] [] J L R := by
  have hsb' : sb = 0 ∨ sb = 420 := by omega
  intro m
  induction m using Nat.strongRecOn with
  | ind m ih =>
    intro J c br n i z hm h g hi hi4 hF
    have hend : ¬ (pf z = 0 ∧ K (pt z) = 139) → wkB l G (d + 5 + 1) n_X9_tellLaw (wkPV R (fun I' L' => L' = L ∧ rG T K S N I' L' F ∧ yLP sb bb c0 b0 at_ I0 I')) 129 [.ref 292, .int k, .int (I0 292 34), .int n] [] J L R := fun c => rLawEnd (l := l) (G := G) (d := d) (L := L) (n := n) (z := z) (F := F) hR hsb hb0 hat eat h g (by rw [zIfs_no c] at hF; exact hF)
    obtain ⟨h1, h2, ⟨h3, h4, h5⟩, h6, h7, h8⟩ := h
    refine w_X9_tellLaw_12 (fun q => hend (fun c => q (by rw [g.2.1]; exact c.1))) (fun f0 => w_X9_tellLaw_19 (P := fun y I' L' => L' = L ∧ I' = J ∧ ((y = 1 ∧ pf z = 0 ∧ K (pt z) = 139) ∨ (y = 0 ∧ ¬ (pf z = 0 ∧ K (pt z) = 139)))) (by rw [← rK_law.1]; exact rIs (k := 139) (d := d + 4) hR h2.1 g (by decide)) (fun y I' L' hq => ?_))
    obtain ⟨rfl, rfl, hy⟩ := hq
    rcases hy with ⟨rfl, z0, k139⟩ | ⟨rfl, c139⟩
    case inr => exact w_X9_tellLaw_25 (fun _ => hend c139) (fun q => absurd rfl q)
    refine w_X9_tellLaw_25 (fun q => absurd q (by decide)) (fun _ => w_X9_tellLaw_28 (fun n4 => w_X9_tellLaw_38 (fun _ => ?_) (fun q => absurd (by rw [f0]; decide) q)) (fun n4 => w_X9_tellLaw_33 (rFail (d := d + 4) hR h2.1 g.w (by decide) (by decide)) (fun J1 L1 hq => ?_)))
    case refine_2 =>
      obtain ⟨rfl, q1, q2, -, gF⟩ := hq
      rw [rLaw_full (by have := i_eq.mp n4; rw [show (4 : Int32).toInt = 4 from rfl] at this; omega) z0 k139 hF] at gF
      have e34 : J1 292 34 = I' 292 34 := q1.1.2 34 (by decide) (by decide) (by decide) (by decide) (by decide)
      have hC := yCS_s h2 q1
      refine w_X9_tellLaw_38 (fun z => ?_) (fun _ => w_X9_tellLaw_45 ⟨rfl, rfl, rfl, rfl, gF, c, br, hC, ⟨by rw [e34]; exact h3, h4, by omega⟩, yM_tr h6 (yM_s q1), h7, Or.inl ⟨q2, yL_tr (Nat.le_refl _) (Nat.le_refl _) h1 (yL_t q1.1)⟩⟩)
      exfalso
      have a := q1.2.1.2.1
      have b := i_le.mp z
      rw [show (0 : Int32).toInt = 0 from rfl] at b
      exact q2 (i_eq.mpr (by rw [show (0 : Int32).toInt = 0 from rfl]; omega))
    have i3 : i < 4 := by
      have : ¬ n.toInt = 4 := fun x => n4 (i_eq.mpr x)
      omega
    have hF' := hF
    rw [zIfs_yes i3 z0 k139] at hF'
    obtain ⟨t0, t0', hB⟩ := h8 f0
    have tk := h2.1.1.2
    have hbr : br < bb + 100 := by omega
    refine w_X9_tellLaw_46 (rGoes (d := d + 3) hR h2.1 g.w (fun _ => by rw [k139]; decide)) (fun J1 L1 hq => ?_)
    obtain ⟨rfl, hN1, g1⟩ := hq
    have hC1 := yCS_s h2 hN1.1
    have e34 : J1 292 34 = I' 292 34 := hN1.1.1.2 34 (by decide) (by decide) (by decide) (by decide) (by decide)
    have eb : (J1 292 34).toNatClampNeg = br := by rw [e34, tcn]; omega
    have hin : vp_in (J1 292 34) 260 := by rw [e34]; exact vin (by omega) (by omega)
    have nb : vp_nar .boolean 1 = (1 : Int32) := rfl
    have g34 : ∀ x, (qUp J1 313 br x) 292 34 = J1 292 34 := fun x => qUp_ne (by omega)
    have g40 : ∀ x, (qUp J1 313 br x) 292 40 = J1 292 40 := fun x => qUp_ne (by omega)
    generalize hJ2 : qUp (qUp J1 313 br 1) 314 br (J1 292 40) = J2
    have f2 : ∀ j, J2 292 j = J1 292 j := fun j => by rw [← hJ2, qUp_ne (by omega), qUp_ne (by omega)]
    have gJ2 : rG T K S N J2 L1 (zTake S true z) := by rw [← hJ2]; exact rG_c (by omega) (rG_c (by omega) g1)
    have hC2 : yCS sb c J2 := yCS_of hC1 (fun j _ => f2 j)
    have hL2 : yL sb bb (sb + c) br I' J2 := by
      rw [← hJ2]
      exact yL_tr (Nat.le_refl _) (Nat.le_refl _) (yL_t hN1.1.1) (yL_tr (Nat.le_refl _) (Nat.le_refl _) (yL_b (k := 313) (by omega) (by omega)) (yL_b (k := 314) (by omega) (by omega)))
    have a313 : J2 313 br = 1 := by rw [← hJ2, qUp_ne (by omega), qUp_at, if_pos ⟨rfl, rfl⟩]
    have a314 : J2 314 br = J1 292 40 := by rw [← hJ2, qUp_at, if_pos ⟨rfl, rfl⟩]
    refine w_X9_tellLaw_53 hR hin (by rw [eb, g34]; exact hin) ?_ ?_ (P := fun I1 L1' => L1' = L1 ∧ yE sb (sb + c) J2 I1 ∧ yM J2 I1 ∧ (∃ c', c ≤ c' ∧ yCS sb c' I1 ∧ (I1 292 13 = 0 → (J2 292 11).toInt + 1 ≤ (I1 292 11).toInt ∧ zseg I1 (J2 292 40) (I1 292 40))) ∧ rG T K S N I1 L1' (zEx K S (zTake S true z)))
    · rw [eb, g34, g40, eb, nb, hJ2]
      exact rExprC (d := d + 1) hR hsb' hC2 gJ2
    intro J3 L3 hq
    obtain ⟨rfl, hE3, hM3, ⟨c3, hc3, hC3, hz3⟩, g3⟩ := hq
    refine w_X9_tellLaw_80 (P := fun I' L' => L' = L3 ∧ yN J3 I' ∧ (I' 292 13 = 0 → J3 295 (J3 292 11).toNatClampNeg = 13) ∧ rG T K S N I' L' (zMust K S 60 (zEx K S (zTake S true z)))) (by rw [← rK_law.2.1]; exact rMust (k := 60) (d := d + 2) hR hC3.1 g3 (by decide) (by decide)) (fun J4 L4 hq => ?_)
    obtain ⟨rfl, hN4, -, g4⟩ := hq
    generalize hz4 : zMust K S 60 (zEx K S (zTake S true z)) = z4 at g4
    have hC4 := yCS_s hC3 hN4.1
    have o4 : ∀ k, k ≠ 292 → J4 k = J3 k := hN4.1.1.1
    have e404 : J4 292 40 = J3 292 40 := hN4.1.1.2 40 (by decide) (by decide) (by decide) (by decide) (by decide)
    have e344 : J4 292 34 = J1 292 34 := (hN4.1.1.2 34 (by decide) (by decide) (by decide) (by decide) (by decide)).trans ((hE3.2.2 34 (by decide) (by decide) (by decide) (by decide) (by decide) (by decide) (by decide) (by decide)).trans (f2 34))
    have eb4 : (J4 292 34).toNatClampNeg = br := by rw [e344]; exact eb
    have f5 : ∀ j, (qUp J4 315 br (J4 292 40)) 292 j = J4 292 j := fun j => qUp_ne (by omega)
    -- from 110 on
    have on : ∀ (J6 : qMI) (c6 : Nat), rG T K S N J6 L4 (zEx K S z4) → yE sb (sb + c3) (qUp J4 315 br (J4 292 40)) J6 → yM (qUp J4 315 br (J4 292 40)) J6 → c3 ≤ c6 → yCS sb c6 J6 → (J6 292 13 = 0 → (J4 292 11).toInt + 1 ≤ (J6 292 11).toInt ∧ zseg J6 (J4 292 40) (J6 292 40)) → wkB l G (d + 5 + 1) n_X9_tellLaw (wkPV R (fun I' L' => L' = L4 ∧ rG T K S N I' L' F ∧ yLP sb bb c0 b0 at_ I0 I')) 110 [.ref 292, .int k, .int (I0 292 34), .int (n + 1)] [] J6 L4 R := by
      intro J6 c6 g6 hE6 hM6 hc6 hC6 hz6
      refine w_X9_tellLaw_110 (P := fun I' L' => L' = L4 ∧ yN J6 I' ∧ (I' 292 13 = 0 → J6 295 (J6 292 11).toNatClampNeg = 32) ∧ rG T K S N I' L' (zMust K S 140 (zEx K S z4))) (by rw [← rK_law.2.2.1]; exact rMust (k := 140) (d := d + 2) hR hC6.1 g6 (by decide) (by decide)) (fun J7 L7 hq => ?_)
      obtain ⟨rfl, hN7, -, g7⟩ := hq
      have hC7 := yCS_s hC6 hN7.1
      have o7 : ∀ k, k ≠ 292 → J7 k = J6 k := hN7.1.1.1
      have e407 : J7 292 40 = J6 292 40 := hN7.1.1.2 40 (by decide) (by decide) (by decide) (by decide) (by decide)
      have e347 : (J7 292 34).toInt = br := by
        rw [hN7.1.1.2 34 (by decide) (by decide) (by decide) (by decide) (by decide), hE6.2.2 34 (by decide) (by decide) (by decide) (by decide) (by decide) (by decide) (by decide) (by decide), f5, e344, e34]
        exact h3
      refine w_X9_tellLaw_116 (rTerm (d := d) (bb := bb) hR hsb' hC7 g7 e347 (by omega)) (fun J8 L8 hq => ?_)
      obtain ⟨rfl, g8, hL8, hM8, b8, ⟨x3, x4, x5, x6, x7⟩, c8, hc8, hC8, hz8⟩ := hq
      refine w_X9_tellLaw_120 (P := fun I' L' => L' = L8 ∧ yN J8 I' ∧ (I' 292 13 = 0 → J8 295 (J8 292 11).toNatClampNeg = 33) ∧ rG T K S N I' L' (zMust K S 141 (zEx K S (zMust K S 140 (zEx K S z4))))) (by rw [← rK_law.2.2.2]; exact rMust (k := 141) (d := d + 2) hR hC8.1 g8 (by decide) (by decide)) (fun J9 L9 hq => w_X9_tellLaw_126 ?_)
      obtain ⟨rfl, hN9, -, g9⟩ := hq
      rw [show zMust K S 141 (zEx K S (zMust K S 140 (zEx K S z4))) = zIf K S z by rw [← hz4]; rfl] at g9
      have hC9 := yCS_s hC8 hN9.1
      have e349 : J9 292 34 = J8 292 34 := hN9.1.1.2 34 (by decide) (by decide) (by decide) (by decide) (by decide)
      have o9 : ∀ k, k ≠ 292 → J9 k = J8 k := hN9.1.1.1
      -- all that changes since I', from c and br on
      have s45 : yL sb bb (sb + c) br J2 (qUp J4 315 br (J4 292 40)) := yL_tr (Nat.le_refl _) (Nat.le_refl _) (yL_e hE3) (yL_tr (Nat.le_refl _) (Nat.le_refl _) (yL_t hN4.1.1) (yL_b (k := 315) (by omega) (by omega)))
      have s69 : yL sb bb (sb + c3) br (qUp J4 315 br (J4 292 40)) J9 := yL_tr (Nat.le_refl _) (Nat.le_refl _) (yL_e hE6) (yL_tr (c1 := sb + c6) (by omega) (Nat.le_refl _) (yL_t hN7.1.1) (yL_tr (Nat.le_refl _) (Nat.le_refl _) hL8 (yL_t hN9.1.1)))
      have s79 : yL sb bb (sb + c6) br J6 J9 := yL_tr (Nat.le_refl _) (Nat.le_refl _) (yL_t hN7.1.1) (yL_tr (Nat.le_refl _) (Nat.le_refl _) hL8 (yL_t hN9.1.1))
      have all : yL sb bb (sb + c) br I' J9 := yL_tr (Nat.le_refl _) (Nat.le_refl _) hL2 (yL_tr (c1 := sb + c) (Nat.le_refl _) (Nat.le_refl _) s45 (yL_tr (c1 := sb + c3) (by omega) (Nat.le_refl _) (yL_rf sb bb (sb + c) br _) s69))
      have hM9 : yM I' J9 := yM_tr (yM_s hN1.1) (yM_tr (yM_of (f2 11) (f2 13)) (yM_tr hM3 (yM_tr (yM_s hN4.1) (yM_tr (yM_of (f5 11) (f5 13)) (yM_tr hM6 (yM_tr (yM_s hN7.1) (yM_tr hM8 (yM_s hN9.1))))))))
      have hI : yLI sb bb c0 b0 I0 J9 c8 (br + 1) := by
        refine ⟨yL_tr (c1 := sb + c) (by omega) h4 h1 all, hC9, ⟨by rw [e349, b8]; omega, by omega, by omega⟩, yM_tr h6 hM9, by omega, fun f9 => ?_⟩
        have g8 : J8 292 13 = 0 := yS_f0 hN9.1 f9
        have g7 : J7 292 13 = 0 := yM_f0 hM8 g8
        have g6 : J6 292 13 = 0 := yS_f0 hN7.1 g7
        have g4 : J4 292 13 = 0 := by rw [← f5 13]; exact yM_f0 hM6 g6
        have g3 : J3 292 13 = 0 := yS_f0 hN4.1 g4
        have g2 : J2 292 13 = 0 := yM_f0 hM3 g3
        have g1 : J1 292 13 = 0 := by rw [← f2 13]; exact g2
        have u1 := hN1.2 g1
        obtain ⟨u3, z3⟩ := hz3 g3
        have u4 := hN4.2 g4
        obtain ⟨u6, z6⟩ := hz6 g6
        have u7 := hN7.2 g7
        obtain ⟨u8, z8⟩ := hz8 g8
        have u9 := hN9.2 f9
        rw [f2] at u3
        refine ⟨by omega, by omega, fun b hb1 hb2 => ?_⟩
        by_cases hbb : b = br
        · subst hbb
          -- the rows of this branch
          have w315 : J6 315 b = J4 292 40 := by rw [hE6.1 315 (by decide) (by decide) (by decide) (by decide), qUp_at, if_pos ⟨rfl, rfl⟩]
          have w9 : J9 315 b = J4 292 40 := by rw [o9 315 (by decide), x5, o7 315 (by decide), w315]
          have w14 : J9 314 b = J1 292 40 := by rw [o9 314 (by decide), x4, o7 314 (by decide), hE6.1 314 (by decide) (by decide) (by decide) (by decide), qUp_ne (by omega), o4 314 (by decide), hE3.1 314 (by decide) (by decide) (by decide) (by decide), a314]
          have w16 : J9 316 b = J6 292 40 := by rw [o9 316 (by decide), x6, e407]
          have w17 : J9 317 b = J8 292 40 := by rw [o9 317 (by decide), x7]
          have k3 : (J3 292 40).toInt = (sb + c3 : Nat) := hC3.2.2.1
          have k6 : (J6 292 40).toInt = (sb + c6 : Nat) := hC6.2.2.1
          have k8 : (J8 292 40).toInt = (sb + c8 : Nat) := hC8.2.2.1
          unfold yB
          rw [w9, w14, w16, w17]
          have k1 : (J1 292 40).toInt = (sb + c : Nat) := hC1.2.2.1
          refine ⟨fun _ => ⟨⟨?_, by rw [k1]; omega, by rw [e404, k3]; omega⟩, ?_, by rw [e404, k3]; omega, by rw [k6]; omega⟩, ?_, by rw [k6]; omega, by rw [k8]; omega⟩
          · rw [e404, ← f2 40]
            refine zseg_congr (C := sb + c3) (by rw [k3]; exact Int.le_refl _) (fun i hi => ?_) z3
            obtain ⟨v1, v2⟩ := s69.2.2.1 i (Or.inl hi)
            exact ⟨v1.trans (by rw [qUp_ne (by omega), o4 318 (by decide)]), v2.trans (by rw [qUp_ne (by omega), o4 319 (by decide)])⟩
          · exact zseg_congr (C := sb + c6) (by rw [k6]; exact Int.le_refl _) (fun i hi => s79.2.2.1 i (Or.inl hi)) z6
          · rw [x6, x7, e407] at z8
            exact zseg_congr (C := sb + c8) (by rw [k8]; exact Int.le_refl _) (fun i _ => ⟨by rw [o9 318 (by decide)], by rw [o9 319 (by decide)]⟩) z8
        · exact yB_congr (by omega) (fun i hi => all.2.2.1 i (Or.inl hi)) (all.2.1 b (Or.inl (by omega))) (hB b hb1 (by omega))
      by_cases f9 : J9 292 13 = 0
      · obtain ⟨-, -, -⟩ := hI.2.2.2.2.2 f9
        have hgt : (I' 292 11).toInt + 1 ≤ (J9 292 11).toInt := by
          have g8 : J8 292 13 = 0 := yS_f0 hN9.1 f9
          have u9 := hN9.2 f9
          have m1 := hN1.1.2.2.1
          have m3 := hM3.1
          have m4 := hN4.1.2.2.1
          have m6 := hM6.1
          have m7 := hN7.1.2.2.1
          have m8 := hM8.1
          rw [f2] at m3
          rw [f5] at m6
          omega
        have t9 := hC9.1.1
        exact ih (400 - (J9 292 11).toInt).toNat (by omega) J9 c8 (br + 1) (n + 1) (i + 1) _ rfl hI g9 (by rw [i_s (by omega), hi]; rfl) (by omega) hF'
      · exact w_X9_tellLaw_12 (fun _ => rLawEnd (d := d) hR hsb hb0 hat eat hI g9 (by rw [zIfs_no (fun c => f9 (by rw [g9.2.1]; exact c.1))] at hF'; exact hF')) (fun q => absurd q f9)
    refine w_X9_tellLaw_86 hR (by rw [e344]; exact hin) ?_ ?_ <;> rw [eb4, f5]
    · exact fun q => on _ c3 (by rw [zEx_f (by rw [← g4.2.1]; exact q)]; exact rG_c (by omega) g4) (yE_rf _ _ _) (yM_rf _) (Nat.le_refl _) (yCS_of hC4 (fun j _ => f5 j)) (fun z => absurd z (by rw [f5]; exact q))
    · refine fun q => w_X9_tellLaw_106 (rExprC (d := d + 1) hR hsb' (yCS_of hC4 (fun j _ => f5 j)) (rG_c (by omega) g4)) (fun J6 L6 hq => ?_)
      obtain ⟨rfl, hE6, hM6, ⟨c6, hc6, hC6, hz6⟩, g6⟩ := hq
      refine on J6 c6 g6 hE6 hM6 hc6 hC6 (fun z => ?_)
      have := hz6 z
      rw [f5, f5] at this
      exact this
theorem rTellLaw (hR : wkR R) (hsb : (sb = 0 ∧ bb = 0) ∨ (sb = 420 ∧ bb = 130)) {I : qMI} {c br at_ : Nat} {k : Int32} (h : yCS sb c I) (g : rG T K S N I L z) (hb : (I 292 34).toInt = br) (hbr : bb ≤ br ∧ br ≤ bb + 100) (ht : I 292 13 = 0 → 4 * ((br : Int) - bb) + 1 ≤ (I 292 11).toInt) (hat : vp_in (5 * I 292 19 + k) 10) (eat : (5 * I 292 19 + k).toNatClampNeg = at_) : wkV l G (d + 6) n_X9_tellLaw [.ref 292, .int k] I L R (fun I' L' => L' = L ∧ rG T K S N I' L' (zMust K S 59 (zLaw K S z)) ∧ yLP sb bb c br at_ I I') := by
  refine wkC_of 2 (by decide) (Nat.le_of_ble_eq_true rfl) (w_X9_tellLaw_0 (rMust (k := 61) (d := d + 2) hR h.1 g (by decide) (by decide)) (fun J L1 hq => w_X9_tellLaw_5 ?_))
  obtain ⟨rfl, hN, -, g1⟩ := hq
  have e34 : J 292 34 = I 292 34 := hN.1.1.2 34 (by decide) (by decide) (by decide) (by decide) (by decide)
  rw [e34]
  refine rLawLoop (d := d) hR hsb hbr.1 hat eat _ J c br 0 0 _ rfl ⟨yL_t hN.1.1, yCS_s h hN.1, ⟨by rw [e34]; exact hb, Nat.le_refl _, hbr.2⟩, yM_s hN.1, Nat.le_refl _, fun q => ?_⟩ g1 rfl (by omega) rfl
  have := hN.2 q
  have := ht (yS_f0 hN.1 q)
  exact ⟨by omega, by omega, fun b h1 h2 => by omega⟩
end
