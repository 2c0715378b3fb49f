section
/-! ===== the reference's terms and laws: what they leave ===== -/
/-- a row of steps from f to t -/
def rSeg (I : qMI) (f t : Int32) (w : pC) : Prop := 0 ≤ f.toInt ∧ t.toInt = f.toInt + w.length ∧ rEm f.toInt.toNat I w
/-- a branch with a test, and the last one -/
def rBt (I : qMI) (b C : Nat) (p : pC × pC × pC) : Prop := I 313 b ≠ 0 ∧ rSeg I (I 314 b) (I 315 b) p.1 ∧ rSeg I (I 315 b) (I 316 b) p.2.1 ∧ rSeg I (I 316 b) (I 317 b) p.2.2 ∧ (I 317 b).toInt ≤ C
def rBl (I : qMI) (b C : Nat) (w : pC) : Prop := I 313 b = 0 ∧ rSeg I (I 316 b) (I 317 b) w ∧ (I 317 b).toInt ≤ C
/-- a law that was told: from branch b0 on -/
def rLw (I : qMI) (a B C : Nat) (w : aLw) : Prop := ∃ b0 : Nat, (I 311 a).toInt = b0 ∧ (I 312 a).toInt = (b0 + w.1.length + 1 : Nat) ∧ b0 + w.1.length < B ∧ (∀ i p, w.1[i]? = some p → rBt I (b0 + i) C p) ∧ rBl I (b0 + w.1.length) C w.2
section
variable {I J : qMI} {f t : Int32} {w : pC} {b C C' : Nat}
theorem rSeg_of (ht : t.toInt ≤ C) (e : ∀ i, i < C → J 318 i = I 318 i ∧ J 319 i = I 319 i) (h : rSeg I f t w) : rSeg J f t w := by
  obtain ⟨h1, h2, h3⟩ := h
  refine ⟨h1, h2, fun i p hp => ?_⟩
  have hi : i < w.length := (List.getElem?_eq_some_iff.mp hp).1
  have e' := e (f.toInt.toNat + i) (by omega)
  rw [e'.1, e'.2]
  exact h3 i p hp
theorem rBt_of {p : pC × pC × pC} (hC : C ≤ C') (e : ∀ i, i < C → J 318 i = I 318 i ∧ J 319 i = I 319 i) (eb : J 313 b = I 313 b ∧ J 314 b = I 314 b ∧ J 315 b = I 315 b ∧ J 316 b = I 316 b ∧ J 317 b = I 317 b) (h : rBt I b C p) : rBt J b C' p := by
  obtain ⟨h1, h2, h3, h4, h5⟩ := h
  obtain ⟨e1, e2, e3, e4, e5⟩ := eb
  unfold rBt
  rw [e1, e2, e3, e4, e5]
  have l3 := h3.2.1
  have l4 := h4.2.1
  exact ⟨h1, rSeg_of (by omega) e h2, rSeg_of (by omega) e h3, rSeg_of h5 e h4, by omega⟩
theorem rBl_of (hC : C ≤ C') (e : ∀ i, i < C → J 318 i = I 318 i ∧ J 319 i = I 319 i) (eb : J 313 b = I 313 b ∧ J 314 b = I 314 b ∧ J 315 b = I 315 b ∧ J 316 b = I 316 b ∧ J 317 b = I 317 b) (h : rBl I b C w) : rBl J b C' w := by
  obtain ⟨h1, h4, h5⟩ := h
  obtain ⟨e1, e2, e3, e4, e5⟩ := eb
  unfold rBl
  rw [e1, e4, e5]
  exact ⟨h1, rSeg_of h5 e h4, by omega⟩
theorem rLw_of {a B B' : Nat} {v : aLw} (hC : C ≤ C') (hB : B ≤ B') (e : ∀ i, i < C → J 318 i = I 318 i ∧ J 319 i = I 319 i) (eb : ∀ b, b < B → J 313 b = I 313 b ∧ J 314 b = I 314 b ∧ J 315 b = I 315 b ∧ J 316 b = I 316 b ∧ J 317 b = I 317 b) (e1 : J 311 a = I 311 a) (e2 : J 312 a = I 312 a) (h : rLw I a B C v) : rLw J a B' C' v := by
  obtain ⟨b0, h1, h2, h3, h4, h5⟩ := h
  refine ⟨b0, by rw [e1]; exact h1, by rw [e2]; exact h2, by omega, fun i p hp => rBt_of hC e (eb _ ?_) (h4 i p hp), rBl_of hC e (eb _ h3) h5⟩
  have hi : i < v.1.length := (List.getElem?_eq_some_iff.mp hp).1
  omega
theorem rSeg_E {c0 : Nat} {x : Int32} (hx : x.toInt = c0) (h : uE c0 I w) : rSeg I x (I 292 40) w := by
  obtain ⟨h1, h2⟩ := h
  refine ⟨by omega, by rw [h1, hx]; omega, ?_⟩
  rw [hx, Int.toNat_natCast]
  exact h2
end
section
variable {K S : Nat → Int32} {N : Nat → Int64} {z : pZ}
theorem yIfs_no {n : Nat} (h : ¬ (pf z = 0 ∧ K (pt z) = 139)) : yIfs K S N n z = [] := by
  cases n with
  | zero => rw [yIfs]
  | succ n => rw [yIfs, if_neg h]
theorem yIfs_yes {i : Nat} (hi : i < 4) (h : pf z = 0) (h2 : K (pt z) = 139) : yIfs K S N (4 - i) z = yIf K S N z :: yIfs K S N (4 - (i + 1)) (zIf K S z) := by
  rw [show 4 - i = (4 - (i + 1)) + 1 by omega, yIfs, if_pos ⟨h, h2⟩]
end
section
variable {l : Launch} {G : qG} {d : Nat} {I : qMI} {L : qML} {R : qMR} {sb bb : Nat} {T : Nat} {K S : Nat → Int32} {N : Nat → Int64} {z F : pZ}
theorem uTerm (hR : wkR R) (hsb : sb = 0 ∨ sb = 420) {c br : Nat} (h : yCS sb c I) (g : rG T K S N I L z) (hb : (I 292 34).toInt = br) (hbb : bb ≤ br ∧ br < bb + 130 ∧ bb ≤ 130) : wkV l G (d + 5) n_X9_term [.ref 292] I L R (fun I' L' => L' = L ∧ (rG T K S N I' L' (zEx K S z) ∧ (pf (zEx K S z) = 0 → rSeg I' (I' 316 br) (I' 317 br) (xEx K S N z))) ∧ yL sb bb (sb + c) br I I' ∧ yM I I' ∧ (I' 292 34).toInt = br + 1 ∧ (I' 313 br = I 313 br ∧ I' 314 br = I 314 br ∧ I' 315 br = I 315 br ∧ I' 316 br = I 292 40 ∧ I' 317 br = I' 292 40) ∧ ∃ c', c ≤ c' ∧ yCS sb c' I' ∧ (I' 292 13 = 0 → (I 292 11).toInt + 1 ≤ (I' 292 11).toInt ∧ zseg I' (I' 316 br) (I' 317 br))) := by
  have hin : vp_in (I 292 34) 260 := vin (by omega) (by omega)
  have eb : (I 292 34).toNatClampNeg = br := by rw [tcn]; omega
  have f1 : ∀ j, (qUp I 316 br (I 292 40)) 292 j = I 292 j := fun j => qUp_ne (by omega)
  have h' := yCS_of (J := qUp I 316 br (I 292 40)) h (fun j _ => f1 j)
  -- from 24 on
  have fin : ∀ (I2 : qMI) (c2 : Nat), rG T K S N I2 L (zEx K S z) → (pf (zEx K S z) = 0 → uE (sb + c) I2 (xEx K S N z)) → yE sb (sb + c) (qUp I 316 br (I 292 40)) I2 → yM I I2 → c ≤ c2 → yCS sb c2 I2 → (I2 292 13 = 0 → (I 292 11).toInt + 1 ≤ (I2 292 11).toInt ∧ zseg I2 (I 292 40) (I2 292 40)) → wkB l G (d + 4 + 1) n_X9_term (wkPV R (fun I' L' => L' = L ∧ (rG T K S N I' L' (zEx K S z) ∧ (pf (zEx K S z) = 0 → rSeg I' (I' 316 br) (I' 317 br) (xEx K S N z))) ∧ yL sb bb (sb + c) br I I' ∧ yM I I' ∧ (I' 292 34).toInt = br + 1 ∧ (I' 313 br = I 313 br ∧ I' 314 br = I 314 br ∧ I' 315 br = I 315 br ∧ I' 316 br = I 292 40 ∧ I' 317 br = I' 292 40) ∧ ∃ c', c ≤ c' ∧ yCS sb c' I' ∧ (I' 292 13 = 0 → (I 292 11).toInt + 1 ≤ (I' 292 11).toInt ∧ zseg I' (I' 316 br) (I' 317 br)))) 24 [.ref 292] [] I2 L R := by
    intro I2 c2 g2 gx hE hM hcc hC hz
    have e34 : I2 292 34 = I 292 34 := (hE.2.2 34 (by decide) (by decide) (by decide) (by decide) (by decide) (by decide) (by decide) (by decide)).trans (f1 34)
    refine w_X9_term_24 hR (by rw [e34]; exact hin) ⟨rfl, rfl, rfl, rfl, ?_⟩
    rw [show (qUp I2 317 (I2 292 34).toNatClampNeg (I2 292 40)) 292 34 = I2 292 34 from qUp_ne (by omega), e34, eb]
    have f2 : ∀ j, j ≠ 34 → (qUp (qUp I2 317 br (I2 292 40)) 292 34 (I 292 34 + 1)) 292 j = I2 292 j := fun j a => by rw [qUp_ne (fun q => a q.2), qUp_ne (by omega)]
    have o2 : ∀ k i, k ≠ 292 → ¬ (k = 317 ∧ i = br) → (qUp (qUp I2 317 br (I2 292 40)) 292 34 (I 292 34 + 1)) k i = I2 k i := fun k i a b => by rw [qUp_ne (fun q => a q.1), qUp_ne b]
    have o1 : ∀ k i, k ≠ 292 → k ≠ 318 → k ≠ 319 → k ≠ 320 → ¬ (k = 316 ∧ i = br) → I2 k i = I k i := fun k i a b c d e => by rw [hE.1 k a b c d, qUp_ne e]
    have e316 : I2 316 br = I 292 40 := by rw [hE.1 316 (by decide) (by decide) (by decide) (by decide), qUp_at, if_pos ⟨rfl, rfl⟩]
    have e317 : (qUp (qUp I2 317 br (I2 292 40)) 292 34 (I 292 34 + 1)) 317 br = I2 292 40 := by rw [qUp_ne (by omega), qUp_at, if_pos ⟨rfl, rfl⟩]
    refine ⟨⟨rG_f (by omega) (rG_c (by omega) g2), fun pz => ?_⟩, yL_tr (Nat.le_refl _) (Nat.le_refl _) (yL_b (k := 316) (by omega) (by omega)) (yL_tr (Nat.le_refl _) (Nat.le_refl _) (yL_e hE) (yL_tr (Nat.le_refl _) (Nat.le_refl _) (yL_b (k := 317) (by omega) (by omega)) yL_34)), yM_tr hM (yM_of (f2 11 (by decide)) (f2 13 (by decide))), ?_, ⟨?_, ?_, ?_, ?_, ?_⟩, c2, hcc, yCS_of hC (fun j hj => f2 j (by omega)), fun q => ?_⟩
    · rw [e317, o2 316 br (by decide) (by omega), e316]
      refine rSeg_of (I := I2) (C := (I2 292 40).toInt.toNat) (by have := hC.2.2.1; omega) (fun i _ => ⟨o2 318 i (by decide) (by omega), o2 319 i (by decide) (by omega)⟩) ?_
      exact rSeg_E h.2.2.1 (gx pz)
    · rw [qUp_at, if_pos ⟨rfl, rfl⟩, i_s (by omega), hb]
    · rw [o2 _ _ (by decide) (by omega), o1 _ _ (by decide) (by decide) (by decide) (by decide) (by omega)]
    · rw [o2 _ _ (by decide) (by omega), o1 _ _ (by decide) (by decide) (by decide) (by decide) (by omega)]
    · rw [o2 _ _ (by decide) (by omega), o1 _ _ (by decide) (by decide) (by decide) (by decide) (by omega)]
    · rw [o2 _ _ (by decide) (by omega), e316]
    · rw [e317, f2 40 (by decide)]
    · rw [f2 13 (by decide)] at q
      obtain ⟨z1, z2⟩ := hz q
      rw [f2 11 (by decide), e317, o2 316 br (by decide) (by omega), e316]
      refine ⟨z1, fun hlt => ?_⟩
      obtain ⟨w1, w2⟩ := z2 hlt
      refine ⟨w1, zrpn_congr (fun i _ _ => ⟨o2 318 i (by decide) (by omega), o2 319 i (by decide) (by omega)⟩) w2⟩
  refine wkC_of 0 (by decide) (Nat.le_of_ble_eq_true rfl) (w_X9_term_0 hR hin ?_ ?_) <;> rw [eb, f1]
  · exact fun q => fin _ c (by rw [zEx_f (by rw [← g.2.1]; exact q)]; exact rG_c (by omega) g) (fun x => absurd (g.2.1.trans (zEx_0 x)) q) (yE_rf _ _ _) (yM_of (f1 11) (f1 13)) (Nat.le_refl _) h' (fun z => absurd z (by rw [f1]; exact q))
  · refine fun q => w_X9_term_20 (uExprC (d := d) hR hsb h' (rG_c (by omega) g)) (fun I2 L2 hq => ?_)
    obtain ⟨rfl, hE, hM, ⟨c2, hcc, hC, hz⟩, hg, gx⟩ := hq
    refine fin I2 c2 hg gx hE (yM_tr (yM_of (f1 11) (f1 13)) hM) hcc hC (fun z => ?_)
    have := hz z
    rw [f1, f1] at this
    exact this
end
section
variable {l : Launch} {G : qG} {d : Nat} {I0 : qMI} {L : qML} {R : qMR} {sb bb : Nat} {T : Nat} {K S : Nat → Int32} {N : Nat → Int64} {z F : pZ} {Y : aLw}
/-- the tests so far, and those to come -/
def uT (K S : Nat → Int32) (N : Nat → Int64) (F : pZ) (Y : aLw) (b0 : Nat) (J : qMI) (br C i : Nat) (z : pZ) : Prop := pf F = 0 → ∃ tl : List (pC × pC × pC), b0 + tl.length = br ∧ (∀ j p, tl[j]? = some p → rBt J (b0 + j) C p) ∧ Y = (tl ++ yIfs K S N (4 - i) z, xEx K S N (zIfs K S (4 - i) z))
/-- a law that was told now: it ends where branches and code do -/
def uLq (at_ : Nat) (I' : qMI) (Y : aLw) : Prop := ∃ b0 B C : Nat, (I' 292 34).toInt = B ∧ (I' 292 40).toInt = C ∧ (I' 311 at_).toInt = b0 ∧ (I' 312 at_).toInt = (b0 + Y.1.length + 1 : Nat) ∧ b0 + Y.1.length < B ∧ (∀ i p, Y.1[i]? = some p → rBt I' (b0 + i) C p) ∧ rBl I' (b0 + Y.1.length) C Y.2
theorem uLawEnd (hR : wkR R) (hsb : (sb = 0 ∧ bb = 0) ∨ (sb = 420 ∧ bb = 130)) {c0 b0 at_ c br : Nat} {k n : Int32} {J : qMI} (hb0 : bb ≤ b0) (hat : vp_in (5 * I0 292 19 + k) 10) (eat : (5 * I0 292 19 + k).toNatClampNeg = at_) (h : yLI sb bb c0 b0 I0 J c br) (g : rG T K S N J L z) (hF : zMust K S 59 (zEx K S z) = F) (hb00 : (I0 292 34).toInt = b0) (hY : pf F = 0 → ∃ tl : List (pC × pC × pC), b0 + tl.length = br ∧ (∀ j p, tl[j]? = some p → rBt J (b0 + j) (sb + c) p) ∧ Y = (tl, xEx K S N z)) : wkB l G (d + 5 + 1) n_X9_tellLaw (wkPV R (fun I' L' => L' = L ∧ rG T K S N I' L' F ∧ yLP sb bb c0 b0 at_ I0 I' ∧ (pf F = 0 → uLq at_ I' Y))) 129 [.ref 292, .int k, .int (I0 292 34), .int n] [] J L R := by
  obtain ⟨h1, h2, ⟨h3, h4, h5⟩, h6, h7, h8⟩ := h
  have hsb' : sb = 0 ∨ sb = 420 := by omega
  have hin : vp_in (J 292 34) 260 := vin (by omega) (by omega)
  have eb : (J 292 34).toNatClampNeg = br := by rw [tcn]; omega
  have f1 : ∀ j, (qUp J 313 br (vp_nar .boolean 0)) 292 j = J 292 j := fun j => qUp_ne (by omega)
  refine w_X9_tellLaw_129 hR hin ?_ ?_ (P := fun I' L' => L' = L ∧ (rG T K S N I' L' (zEx K S z) ∧ (pf (zEx K S z) = 0 → rSeg I' (I' 316 br) (I' 317 br) (xEx K S N z))) ∧ yL sb bb (sb + c) br (qUp J 313 br (vp_nar .boolean 0)) I' ∧ yM (qUp J 313 br (vp_nar .boolean 0)) I' ∧ (I' 292 34).toInt = br + 1 ∧ (I' 313 br = (qUp J 313 br (vp_nar .boolean 0)) 313 br ∧ I' 314 br = (qUp J 313 br (vp_nar .boolean 0)) 314 br ∧ I' 315 br = (qUp J 313 br (vp_nar .boolean 0)) 315 br ∧ I' 316 br = (qUp J 313 br (vp_nar .boolean 0)) 292 40 ∧ I' 317 br = I' 292 40) ∧ ∃ c', c ≤ c' ∧ yCS sb c' I' ∧ (I' 292 13 = 0 → ((qUp J 313 br (vp_nar .boolean 0)) 292 11).toInt + 1 ≤ (I' 292 11).toInt ∧ zseg I' (I' 316 br) (I' 317 br)))
  · rw [eb]
    exact uTerm (d := d) hR hsb' (yCS_of h2 (fun j _ => f1 j)) (rG_c (by omega) g) (by rw [f1]; exact h3) (by omega)
  · intro J2 L2 hq
    obtain ⟨rfl, ⟨g2, gs⟩, q1, q2, q3, ⟨q4, -, -, q5, q6⟩, c2, q7, q8, q9⟩ := hq
    rw [qUp_at, if_pos ⟨rfl, rfl⟩] at q4
    rw [f1] at q5 q9
    refine w_X9_tellLaw_143 (rMust (k := 59) (d := d + 2) hR q8.1 g2 (by decide) (by decide)) (fun J3 L3 hq => ?_)
    obtain ⟨rfl, hN, -, g3⟩ := hq
    rw [hF] at g3
    have hC3 := yCS_s q8 hN.1
    have e34 : J3 292 34 = J2 292 34 := hN.1.1.2 34 (by decide) (by decide) (by decide) (by decide) (by decide)
    have e40 : J3 292 40 = J2 292 40 := hN.1.1.2 40 (by decide) (by decide) (by decide) (by decide) (by decide)
    have hL3 : yL sb bb (sb + c0) b0 I0 J3 := yL_tr (c1 := sb + c) (b1 := br) (by omega) h4 h1 (yL_tr (Nat.le_refl _) (Nat.le_refl _) (yL_b (k := 313) (by omega) (by omega)) (yL_tr (Nat.le_refl _) (Nat.le_refl _) q1 (yL_t hN.1.1)))
    have hM3 : yM I0 J3 := yM_tr h6 (yM_tr (yM_of (f1 11) (f1 13)) (yM_tr q2 (yM_s hN.1)))
    have hb3 : (J3 292 34).toInt = (br + 1 : Nat) := by rw [e34, q3]; omega
    refine w_X9_tellLaw_148 (fun hf => ?_) (fun hf => w_X9_tellLaw_155 ⟨rfl, rfl, rfl, rfl, g3, ⟨c2, br + 1, hC3, ⟨hb3, by omega, by omega⟩, hM3, by omega, Or.inl ⟨fun z => hf (by rw [z]; decide), hL3⟩⟩, fun x => absurd (by rw [g3.2.1, x]; decide) hf⟩)
    have f3 : J3 292 13 = 0 := by
      have a := hC3.1.2.1
      have b := i_le.mp hf
      rw [show (0 : Int32).toInt = 0 from rfl] at b
      exact i_eq.mpr (by rw [show (0 : Int32).toInt = 0 from rfl]; omega)
    have f2 : J2 292 13 = 0 := yS_f0 hN.1 f3
    have f0 : J 292 13 = 0 := by rw [← f1 13]; exact yM_f0 q2 f2
    obtain ⟨t1, t2, hB⟩ := h8 f0
    obtain ⟨t3, z3⟩ := q9 f2
    have t4 := hN.2 f3
    have e19 : J3 292 19 = I0 292 19 := hL3.2.2.2 19 (by decide) (by decide) (by decide) (by decide) (by decide) (by decide) (by decide) (by decide) (by decide)
    refine w_X9_tellLaw_156 hR (by rw [e19]; exact hat) (by rw [qUp_ne (by omega), e19]; exact hat) ⟨rfl, rfl, rfl, rfl, ?_⟩
    rw [show (qUp J3 311 (5 * J3 292 19 + k).toNatClampNeg (I0 292 34)) 292 19 = J3 292 19 from qUp_ne (by omega), show (qUp J3 311 (5 * J3 292 19 + k).toNatClampNeg (I0 292 34)) 292 34 = J3 292 34 from qUp_ne (by omega), e19, eat]
    have fz : ∀ j, (qUp (qUp J3 311 at_ (I0 292 34)) 312 at_ (J3 292 34)) 292 j = J3 292 j := fun j => by rw [qUp_ne (by omega), qUp_ne (by omega)]
    have oz : ∀ k, k ≠ 311 → k ≠ 312 → (qUp (qUp J3 311 at_ (I0 292 34)) 312 at_ (J3 292 34)) k = J3 k := fun k a b => funext fun i => by rw [qUp_ne (fun q => b q.1), qUp_ne (fun q => a q.1)]
    have o3 : ∀ k, k ≠ 292 → J3 k = J2 k := hN.1.1.1
    have hL : yL sb bb (sb + c) br J J3 := yL_tr (Nat.le_refl _) (Nat.le_refl _) (yL_b (k := 313) (by omega) (by omega)) (yL_tr (Nat.le_refl _) (Nat.le_refl _) q1 (yL_t hN.1.1))
    refine ⟨rG_c (by omega) (rG_c (by omega) g3), ⟨c2, br + 1, yCS_of hC3 (fun j _ => fz j), ⟨by rw [fz]; exact hb3, by omega, by omega⟩, yM_tr hM3 (yM_of (fz 11) (fz 13)), by omega, Or.inr ⟨by rw [fz]; exact f3, ⟨J3, hL3, by rw [fz]⟩, by rw [fz]; omega, by rw [fz]; omega, fun b hb1 hb2 => ?_⟩⟩, fun pF => ?_⟩
    rotate_left
    · obtain ⟨tl, w1, w2, w3⟩ := hY pF
      have pe : pf (zEx K S z) = 0 := by rw [← hF] at pF; exact zMust_0 pF
      have k40 := q8.2.2.1
      refine ⟨b0, br + 1, sb + c2, by rw [fz, e34, q3]; omega, by rw [fz, e40]; exact k40, ?_, ?_, ?_, fun j p hp => ?_, ?_⟩
      · rw [qUp_ne (by omega), qUp_at, if_pos ⟨rfl, rfl⟩]; exact hb00
      · rw [qUp_at, if_pos ⟨rfl, rfl⟩, hb3, w3]
        show ((br + 1 : Nat) : Int) = ((b0 + tl.length + 1 : Nat) : Int)
        omega
      · rw [w3]; show b0 + tl.length < br + 1; omega
      · rw [w3] at hp
        have hj : j < tl.length := (List.getElem?_eq_some_iff.mp hp).1
        refine rBt_of (I := J) (C := sb + c) (by omega) (fun i hi => ?_) ?_ (w2 j p hp)
        · rw [oz 318 (by decide) (by decide), oz 319 (by decide) (by decide)]; exact hL.2.2.1 i (Or.inl hi)
        · rw [oz 313 (by decide) (by decide), oz 314 (by decide) (by decide), oz 315 (by decide) (by decide), oz 316 (by decide) (by decide), oz 317 (by decide) (by decide)]; exact hL.2.1 _ (Or.inl (by omega))
      · have eb' : b0 + Y.1.length = br := by rw [w3]; exact w1
        rw [eb']
        refine rBl_of (I := J2) (C := sb + c2) (Nat.le_refl _) (fun i _ => ⟨by rw [oz 318 (by decide) (by decide), o3 318 (by decide)], by rw [oz 319 (by decide) (by decide), o3 319 (by decide)]⟩) ⟨by rw [oz 313 (by decide) (by decide), o3 313 (by decide)], by rw [oz 314 (by decide) (by decide), o3 314 (by decide)], by rw [oz 315 (by decide) (by decide), o3 315 (by decide)], by rw [oz 316 (by decide) (by decide), o3 316 (by decide)], by rw [oz 317 (by decide) (by decide), o3 317 (by decide)]⟩ ⟨q4.trans rfl, by rw [w3]; exact gs pe, by rw [q6, k40]; exact Int.le_refl _⟩
    refine yB_congr (I := J3) (C := sb + c2) (Nat.le_refl _) (fun i _ => ⟨by rw [oz 318 (by decide) (by decide)], by rw [oz 319 (by decide) (by decide)]⟩) ⟨by rw [oz 313 (by decide) (by decide)], by rw [oz 314 (by decide) (by decide)], by rw [oz 315 (by decide) (by decide)], by rw [oz 316 (by decide) (by decide)], by rw [oz 317 (by decide) (by decide)]⟩ ?_
    by_cases hbr : b = br
    · subst hbr
      refine yB_congr (I := J2) (C := sb + c2) (Nat.le_refl _) (fun i _ => ⟨by rw [o3 318 (by decide)], by rw [o3 319 (by decide)]⟩) ⟨by rw [o3 313 (by decide)], by rw [o3 314 (by decide)], by rw [o3 315 (by decide)], by rw [o3 316 (by decide)], by rw [o3 317 (by decide)]⟩ ⟨fun z => absurd (q4.trans rfl) z, z3, by rw [q5, h2.2.2.1]; omega, ?_⟩
      rw [q6, q8.2.2.1]
      exact Int.le_refl _
    · have hL : yL sb bb (sb + c) br J J3 := yL_tr (Nat.le_refl _) (Nat.le_refl _) (yL_b (k := 313) (by omega) (by omega)) (yL_tr (Nat.le_refl _) (Nat.le_refl _) q1 (yL_t hN.1.1))
      exact yB_congr (by omega) (fun i hi => hL.2.2.1 i (Or.inl hi)) (hL.2.1 b (Or.inl (by omega))) (hB b hb1 (by omega))
theorem uLawLoop (hR : wkR R) (hsb : (sb = 0 ∧ bb = 0) ∨ (sb = 420 ∧ bb = 130)) {c0 b0 at_ : Nat} {k : Int32} (hb0 : bb ≤ b0) (hat : vp_in (5 * I0 292 19 + k) 10) (eat : (5 * I0 292 19 + k).toNatClampNeg = at_) (hb00 : (I0 292 34).toInt = b0) : ∀ (m : Nat) (J : qMI) (c br : Nat) (n : Int32) (i : Nat) (z : pZ), (400 - (J 292 11).toInt).toNat = m → yLI sb bb c0 b0 I0 J c br → rG T K S N J L z → n.toInt = i → i ≤ 4 → zMust K S 59 (zEx K S (zIfs K S (4 - i) z)) = F → uT K S N F Y b0 J br (sb + c) i z → wkB l G (d + 5 + 1) n_X9_tellLaw (wkPV R (fun I' L' => L' = L ∧ rG T K S N I' L' F ∧ yLP sb bb c0 b0 at_ I0 I' ∧ (pf F = 0 → uLq at_ I' Y))) 12 [.ref 292, .int k, .int (I0 292 34), .int n] [] J L R := by
  have hsb' : sb = 0 ∨ sb = 420 := by omega
  intro m
  induction m using Nat.strongRecOn with
  | ind m ih =>
    intro J c br n i z hm h g hi hi4 hF hT
    have hend : ¬ (pf z = 0 ∧ K (pt z) = 139) → wkB l G (d + 5 + 1) n_X9_tellLaw (wkPV R (fun I' L' => L' = L ∧ rG T K S N I' L' F ∧ yLP sb bb c0 b0 at_ I0 I' ∧ (pf F = 0 → uLq at_ I' Y))) 129 [.ref 292, .int k, .int (I0 292 34), .int n] [] J L R := fun cc => uLawEnd (l := l) (G := G) (d := d) (L := L) (n := n) (z := z) (F := F) hR hsb hb0 hat eat h g (by rw [zIfs_no cc] at hF; exact hF) hb00 (fun pF => by
      obtain ⟨tl, w1, w2, w3⟩ := hT pF
      rw [yIfs_no cc, zIfs_no cc, List.append_nil] at w3
      exact ⟨tl, w1, w2, w3⟩)
    obtain ⟨h1, h2, ⟨h3, h4, h5⟩, h6, h7, h8⟩ := h
    refine w_X9_tellLaw_12 (fun q => hend (fun c => q (by rw [g.2.1]; exact c.1))) (fun f0 => w_X9_tellLaw_19 (P := fun y I' L' => L' = L ∧ I' = J ∧ ((y = 1 ∧ pf z = 0 ∧ K (pt z) = 139) ∨ (y = 0 ∧ ¬ (pf z = 0 ∧ K (pt z) = 139)))) (by rw [← rK_law.1]; exact rIs (k := 139) (d := d + 4) hR h2.1 g (by decide)) (fun y I' L' hq => ?_))
    obtain ⟨rfl, rfl, hy⟩ := hq
    rcases hy with ⟨rfl, z0, k139⟩ | ⟨rfl, c139⟩
    case inr => exact w_X9_tellLaw_25 (fun _ => hend c139) (fun q => absurd rfl q)
    refine w_X9_tellLaw_25 (fun q => absurd q (by decide)) (fun _ => w_X9_tellLaw_28 (fun n4 => w_X9_tellLaw_38 (fun _ => ?_) (fun q => absurd (by rw [f0]; decide) q)) (fun n4 => w_X9_tellLaw_33 (rFail (d := d + 4) hR h2.1 g.w (by decide) (by decide)) (fun J1 L1 hq => ?_)))
    case refine_2 =>
      obtain ⟨rfl, q1, q2, -, gF⟩ := hq
      rw [rLaw_full (by have := i_eq.mp n4; rw [show (4 : Int32).toInt = 4 from rfl] at this; omega) z0 k139 hF] at gF
      have e34 : J1 292 34 = I' 292 34 := q1.1.2 34 (by decide) (by decide) (by decide) (by decide) (by decide)
      have hC := yCS_s h2 q1
      refine w_X9_tellLaw_38 (fun z => ?_) (fun _ => w_X9_tellLaw_45 ⟨rfl, rfl, rfl, rfl, gF, ⟨c, br, hC, ⟨by rw [e34]; exact h3, h4, by omega⟩, yM_tr h6 (yM_s q1), h7, Or.inl ⟨q2, yL_tr (Nat.le_refl _) (Nat.le_refl _) h1 (yL_t q1.1)⟩⟩, fun x => absurd (gF.2.1.trans x) q2⟩)
      exfalso
      have a := q1.2.1.2.1
      have b := i_le.mp z
      rw [show (0 : Int32).toInt = 0 from rfl] at b
      exact q2 (i_eq.mpr (by rw [show (0 : Int32).toInt = 0 from rfl]; omega))
    have i3 : i < 4 := by
      have : ¬ n.toInt = 4 := fun x => n4 (i_eq.mpr x)
      omega
    have hF' := hF
    rw [zIfs_yes i3 z0 k139] at hF'
    obtain ⟨t0, t0', hB⟩ := h8 f0
    have tk := h2.1.1.2
    have hbr : br < bb + 100 := by omega
    refine w_X9_tellLaw_46 (rGoes (d := d + 3) hR h2.1 g.w (fun _ => by rw [k139]; decide)) (fun J1 L1 hq => ?_)
    obtain ⟨rfl, hN1, g1⟩ := hq
    have hC1 := yCS_s h2 hN1.1
    have e34 : J1 292 34 = I' 292 34 := hN1.1.1.2 34 (by decide) (by decide) (by decide) (by decide) (by decide)
    have eb : (J1 292 34).toNatClampNeg = br := by rw [e34, tcn]; omega
    have hin : vp_in (J1 292 34) 260 := by rw [e34]; exact vin (by omega) (by omega)
    have nb : vp_nar .boolean 1 = (1 : Int32) := rfl
    have g34 : ∀ x, (qUp J1 313 br x) 292 34 = J1 292 34 := fun x => qUp_ne (by omega)
    have g40 : ∀ x, (qUp J1 313 br x) 292 40 = J1 292 40 := fun x => qUp_ne (by omega)
    generalize hJ2 : qUp (qUp J1 313 br 1) 314 br (J1 292 40) = J2
    have f2 : ∀ j, J2 292 j = J1 292 j := fun j => by rw [← hJ2, qUp_ne (by omega), qUp_ne (by omega)]
    have gJ2 : rG T K S N J2 L1 (zTake S true z) := by rw [← hJ2]; exact rG_c (by omega) (rG_c (by omega) g1)
    have hC2 : yCS sb c J2 := yCS_of hC1 (fun j _ => f2 j)
    have hL2 : yL sb bb (sb + c) br I' J2 := by
      rw [← hJ2]
      exact yL_tr (Nat.le_refl _) (Nat.le_refl _) (yL_t hN1.1.1) (yL_tr (Nat.le_refl _) (Nat.le_refl _) (yL_b (k := 313) (by omega) (by omega)) (yL_b (k := 314) (by omega) (by omega)))
    have a313 : J2 313 br = 1 := by rw [← hJ2, qUp_ne (by omega), qUp_at, if_pos ⟨rfl, rfl⟩]
    have a314 : J2 314 br = J1 292 40 := by rw [← hJ2, qUp_at, if_pos ⟨rfl, rfl⟩]
    refine w_X9_tellLaw_53 hR hin (by rw [eb, g34]; exact hin) ?_ ?_ (P := fun I1 L1' => L1' = L1 ∧ yE sb (sb + c) J2 I1 ∧ yM J2 I1 ∧ (∃ c', c ≤ c' ∧ yCS sb c' I1 ∧ (I1 292 13 = 0 → (J2 292 11).toInt + 1 ≤ (I1 292 11).toInt ∧ zseg I1 (J2 292 40) (I1 292 40))) ∧ rG T K S N I1 L1' (zEx K S (zTake S true z)) ∧ (pf (zEx K S (zTake S true z)) = 0 → uE (sb + c) I1 (xEx K S N (zTake S true z))))
    · rw [eb, g34, g40, eb, nb, hJ2]
      exact uExprC (d := d + 1) hR hsb' hC2 gJ2
    intro J3 L3 hq
    obtain ⟨rfl, hE3, hM3, ⟨c3, hc3, hC3, hz3⟩, g3, gx3⟩ := hq
    refine w_X9_tellLaw_80 (P := fun I' L' => L' = L3 ∧ yN J3 I' ∧ (I' 292 13 = 0 → J3 295 (J3 292 11).toNatClampNeg = 13) ∧ rG T K S N I' L' (zMust K S 60 (zEx K S (zTake S true z)))) (by rw [← rK_law.2.1]; exact rMust (k := 60) (d := d + 2) hR hC3.1 g3 (by decide) (by decide)) (fun J4 L4 hq => ?_)
    obtain ⟨rfl, hN4, -, g4⟩ := hq
    generalize hz4 : zMust K S 60 (zEx K S (zTake S true z)) = z4 at g4
    have hC4 := yCS_s hC3 hN4.1
    have o4 : ∀ k, k ≠ 292 → J4 k = J3 k := hN4.1.1.1
    have e404 : J4 292 40 = J3 292 40 := hN4.1.1.2 40 (by decide) (by decide) (by decide) (by decide) (by decide)
    have e344 : J4 292 34 = J1 292 34 := (hN4.1.1.2 34 (by decide) (by decide) (by decide) (by decide) (by decide)).trans ((hE3.2.2 34 (by decide) (by decide) (by decide) (by decide) (by decide) (by decide) (by decide) (by decide)).trans (f2 34))
    have eb4 : (J4 292 34).toNatClampNeg = br := by rw [e344]; exact eb
    have f5 : ∀ j, (qUp J4 315 br (J4 292 40)) 292 j = J4 292 j := fun j => qUp_ne (by omega)
    -- from 110 on
    have on : ∀ (J6 : qMI) (c6 : Nat), rG T K S N J6 L4 (zEx K S z4) → (pf (zEx K S z4) = 0 → uE (sb + c3) J6 (xEx K S N z4)) → yE sb (sb + c3) (qUp J4 315 br (J4 292 40)) J6 → yM (qUp J4 315 br (J4 292 40)) J6 → c3 ≤ c6 → yCS sb c6 J6 → (J6 292 13 = 0 → (J4 292 11).toInt + 1 ≤ (J6 292 11).toInt ∧ zseg J6 (J4 292 40) (J6 292 40)) → wkB l G (d + 5 + 1) n_X9_tellLaw (wkPV R (fun I' L' => L' = L4 ∧ rG T K S N I' L' F ∧ yLP sb bb c0 b0 at_ I0 I' ∧ (pf F = 0 → uLq at_ I' Y))) 110 [.ref 292, .int k, .int (I0 292 34), .int (n + 1)] [] J6 L4 R := by
      intro J6 c6 g6 gx6 hE6 hM6 hc6 hC6 hz6
      refine w_X9_tellLaw_110 (P := fun I' L' => L' = L4 ∧ yN J6 I' ∧ (I' 292 13 = 0 → J6 295 (J6 292 11).toNatClampNeg = 32) ∧ rG T K S N I' L' (zMust K S 140 (zEx K S z4))) (by rw [← rK_law.2.2.1]; exact rMust (k := 140) (d := d + 2) hR hC6.1 g6 (by decide) (by decide)) (fun J7 L7 hq => ?_)
      obtain ⟨rfl, hN7, -, g7⟩ := hq
      have hC7 := yCS_s hC6 hN7.1
      have o7 : ∀ k, k ≠ 292 → J7 k = J6 k := hN7.1.1.1
      have e407 : J7 292 40 = J6 292 40 := hN7.1.1.2 40 (by decide) (by decide) (by decide) (by decide) (by decide)
      have e347 : (J7 292 34).toInt = br := by
        rw [hN7.1.1.2 34 (by decide) (by decide) (by decide) (by decide) (by decide), hE6.2.2 34 (by decide) (by decide) (by decide) (by decide) (by decide) (by decide) (by decide) (by decide), f5, e344, e34]
        exact h3
      refine w_X9_tellLaw_116 (uTerm (d := d) (bb := bb) hR hsb' hC7 g7 e347 (by omega)) (fun J8 L8 hq => ?_)
      obtain ⟨rfl, ⟨g8, gs8⟩, hL8, hM8, b8, ⟨x3, x4, x5, x6, x7⟩, c8, hc8, hC8, hz8⟩ := hq
      refine w_X9_tellLaw_120 (P := fun I' L' => L' = L8 ∧ yN J8 I' ∧ (I' 292 13 = 0 → J8 295 (J8 292 11).toNatClampNeg = 33) ∧ rG T K S N I' L' (zMust K S 141 (zEx K S (zMust K S 140 (zEx K S z4))))) (by rw [← rK_law.2.2.2]; exact rMust (k := 141) (d := d + 2) hR hC8.1 g8 (by decide) (by decide)) (fun J9 L9 hq => w_X9_tellLaw_126 ?_)
      obtain ⟨rfl, hN9, -, g9⟩ := hq
      rw [show zMust K S 141 (zEx K S (zMust K S 140 (zEx K S z4))) = zIf K S z by rw [← hz4]; rfl] at g9
      have hC9 := yCS_s hC8 hN9.1
      have e349 : J9 292 34 = J8 292 34 := hN9.1.1.2 34 (by decide) (by decide) (by decide) (by decide) (by decide)
      have o9 : ∀ k, k ≠ 292 → J9 k = J8 k := hN9.1.1.1
      -- all that changes since I', from c and br on
      have s45 : yL sb bb (sb + c) br J2 (qUp J4 315 br (J4 292 40)) := yL_tr (Nat.le_refl _) (Nat.le_refl _) (yL_e hE3) (yL_tr (Nat.le_refl _) (Nat.le_refl _) (yL_t hN4.1.1) (yL_b (k := 315) (by omega) (by omega)))
      have s69 : yL sb bb (sb + c3) br (qUp J4 315 br (J4 292 40)) J9 := yL_tr (Nat.le_refl _) (Nat.le_refl _) (yL_e hE6) (yL_tr (c1 := sb + c6) (by omega) (Nat.le_refl _) (yL_t hN7.1.1) (yL_tr (Nat.le_refl _) (Nat.le_refl _) hL8 (yL_t hN9.1.1)))
      have s79 : yL sb bb (sb + c6) br J6 J9 := yL_tr (Nat.le_refl _) (Nat.le_refl _) (yL_t hN7.1.1) (yL_tr (Nat.le_refl _) (Nat.le_refl _) hL8 (yL_t hN9.1.1))
      have all : yL sb bb (sb + c) br I' J9 := yL_tr (Nat.le_refl _) (Nat.le_refl _) hL2 (yL_tr (c1 := sb + c) (Nat.le_refl _) (Nat.le_refl _) s45 (yL_tr (c1 := sb + c3) (by omega) (Nat.le_refl _) (yL_rf sb bb (sb + c) br _) s69))
      have hM9 : yM I' J9 := yM_tr (yM_s hN1.1) (yM_tr (yM_of (f2 11) (f2 13)) (yM_tr hM3 (yM_tr (yM_s hN4.1) (yM_tr (yM_of (f5 11) (f5 13)) (yM_tr hM6 (yM_tr (yM_s hN7.1) (yM_tr hM8 (yM_s hN9.1))))))))
      have hI : yLI sb bb c0 b0 I0 J9 c8 (br + 1) := by
        refine ⟨yL_tr (c1 := sb + c) (by omega) h4 h1 all, hC9, ⟨by rw [e349, b8]; omega, by omega, by omega⟩, yM_tr h6 hM9, by omega, fun f9 => ?_⟩
        have g8 : J8 292 13 = 0 := yS_f0 hN9.1 f9
        have g7 : J7 292 13 = 0 := yM_f0 hM8 g8
        have g6 : J6 292 13 = 0 := yS_f0 hN7.1 g7
        have g4 : J4 292 13 = 0 := by rw [← f5 13]; exact yM_f0 hM6 g6
        have g3 : J3 292 13 = 0 := yS_f0 hN4.1 g4
        have g2 : J2 292 13 = 0 := yM_f0 hM3 g3
        have g1 : J1 292 13 = 0 := by rw [← f2 13]; exact g2
        have u1 := hN1.2 g1
        obtain ⟨u3, z3⟩ := hz3 g3
        have u4 := hN4.2 g4
        obtain ⟨u6, z6⟩ := hz6 g6
        have u7 := hN7.2 g7
        obtain ⟨u8, z8⟩ := hz8 g8
        have u9 := hN9.2 f9
        rw [f2] at u3
        refine ⟨by omega, by omega, fun b hb1 hb2 => ?_⟩
        by_cases hbb : b = br
        · subst hbb
          -- the rows of this branch
          have w315 : J6 315 b = J4 292 40 := by rw [hE6.1 315 (by decide) (by decide) (by decide) (by decide), qUp_at, if_pos ⟨rfl, rfl⟩]
          have w9 : J9 315 b = J4 292 40 := by rw [o9 315 (by decide), x5, o7 315 (by decide), w315]
          have w14 : J9 314 b = J1 292 40 := by rw [o9 314 (by decide), x4, o7 314 (by decide), hE6.1 314 (by decide) (by decide) (by decide) (by decide), qUp_ne (by omega), o4 314 (by decide), hE3.1 314 (by decide) (by decide) (by decide) (by decide), a314]
          have w16 : J9 316 b = J6 292 40 := by rw [o9 316 (by decide), x6, e407]
          have w17 : J9 317 b = J8 292 40 := by rw [o9 317 (by decide), x7]
          have k3 : (J3 292 40).toInt = (sb + c3 : Nat) := hC3.2.2.1
          have k6 : (J6 292 40).toInt = (sb + c6 : Nat) := hC6.2.2.1
          have k8 : (J8 292 40).toInt = (sb + c8 : Nat) := hC8.2.2.1
          unfold yB
          rw [w9, w14, w16, w17]
          have k1 : (J1 292 40).toInt = (sb + c : Nat) := hC1.2.2.1
          refine ⟨fun _ => ⟨⟨?_, by rw [k1]; omega, by rw [e404, k3]; omega⟩, ?_, by rw [e404, k3]; omega, by rw [k6]; omega⟩, ?_, by rw [k6]; omega, by rw [k8]; omega⟩
          · rw [e404, ← f2 40]
            refine zseg_congr (C := sb + c3) (by rw [k3]; exact Int.le_refl _) (fun i hi => ?_) z3
            obtain ⟨v1, v2⟩ := s69.2.2.1 i (Or.inl hi)
            exact ⟨v1.trans (by rw [qUp_ne (by omega), o4 318 (by decide)]), v2.trans (by rw [qUp_ne (by omega), o4 319 (by decide)])⟩
          · exact zseg_congr (C := sb + c6) (by rw [k6]; exact Int.le_refl _) (fun i hi => s79.2.2.1 i (Or.inl hi)) z6
          · rw [x6, x7, e407] at z8
            exact zseg_congr (C := sb + c8) (by rw [k8]; exact Int.le_refl _) (fun i _ => ⟨by rw [o9 318 (by decide)], by rw [o9 319 (by decide)]⟩) z8
        · exact yB_congr (by omega) (fun i hi => all.2.2.1 i (Or.inl hi)) (all.2.1 b (Or.inl (by omega))) (hB b hb1 (by omega))
      have hT9 : uT K S N F Y b0 J9 (br + 1) (sb + c8) (i + 1) (zIf K S z) := fun pF => by
        obtain ⟨tl, w1, w2, w3⟩ := hT pF
        have pI : pf (zIf K S z) = 0 := by rw [← hF'] at pF; exact zIfs_0 (zEx_0 (zMust_0 pF))
        have p8 : pf (zEx K S (zMust K S 140 (zEx K S z4))) = 0 := by
          rw [← (show zMust K S 141 (zEx K S (zMust K S 140 (zEx K S z4))) = zIf K S z by rw [← hz4]; rfl)] at pI
          exact zMust_0 pI
        have p6 : pf (zEx K S z4) = 0 := zMust_0 (zEx_0 p8)
        have p3 : pf (zEx K S (zTake S true z)) = 0 := by
          have := zEx_0 p6
          rw [← hz4] at this
          exact zMust_0 this
        refine ⟨tl ++ [yIf K S N z], by rw [List.length_append, List.length_singleton]; omega, fun j p hp => ?_, ?_⟩
        · by_cases hj : j < tl.length
          · rw [List.getElem?_append_left hj] at hp
            exact rBt_of (I := I') (C := sb + c) (by omega) (fun i hi => all.2.2.1 i (Or.inl hi)) (all.2.1 _ (Or.inl (by omega))) (w2 j p hp)
          · have hj2 : j = tl.length := by
              have := (List.getElem?_eq_some_iff.mp hp).1
              rw [List.length_append, List.length_singleton] at this
              omega
            rw [hj2, List.getElem?_append_right (Nat.le_refl _), Nat.sub_self] at hp
            injection hp with hp
            rw [hj2, w1, ← hp]
            have w313 : J9 313 br = 1 := by rw [o9 313 (by decide), x3, o7 313 (by decide), hE6.1 313 (by decide) (by decide) (by decide) (by decide), qUp_ne (by omega), o4 313 (by decide), hE3.1 313 (by decide) (by decide) (by decide) (by decide), a313]
            have w315 : J6 315 br = J4 292 40 := by rw [hE6.1 315 (by decide) (by decide) (by decide) (by decide), qUp_at, if_pos ⟨rfl, rfl⟩]
            have w9 : J9 315 br = J4 292 40 := by rw [o9 315 (by decide), x5, o7 315 (by decide), w315]
            have w14 : J9 314 br = J1 292 40 := by rw [o9 314 (by decide), x4, o7 314 (by decide), hE6.1 314 (by decide) (by decide) (by decide) (by decide), qUp_ne (by omega), o4 314 (by decide), hE3.1 314 (by decide) (by decide) (by decide) (by decide), a314]
            have w16 : J9 316 br = J6 292 40 := by rw [o9 316 (by decide), x6, e407]
            have w17 : J9 317 br = J8 292 40 := by rw [o9 317 (by decide), x7]
            have k3 : (J3 292 40).toInt = (sb + c3 : Nat) := hC3.2.2.1
            have k6 : (J6 292 40).toInt = (sb + c6 : Nat) := hC6.2.2.1
            have k8 : (J8 292 40).toInt = (sb + c8 : Nat) := hC8.2.2.1
            have k1 : (J1 292 40).toInt = (sb + c : Nat) := hC1.2.2.1
            unfold rBt
            rw [w9, w14, w16, w17, w313]
            refine ⟨by decide, ?_, ?_, ?_, by rw [k8]; exact Int.le_refl _⟩
            · rw [e404]
              refine rSeg_of (I := J3) (C := sb + c3) (by rw [k3]; exact Int.le_refl _) (fun i hi => ?_) (rSeg_E k1 (gx3 p3))
              obtain ⟨v1, v2⟩ := s69.2.2.1 i (Or.inl hi)
              exact ⟨v1.trans (by rw [qUp_ne (by omega), o4 318 (by decide)]), v2.trans (by rw [qUp_ne (by omega), o4 319 (by decide)])⟩
            · refine rSeg_of (I := J6) (C := sb + c6) (by rw [k6]; exact Int.le_refl _) (fun i hi => s79.2.2.1 i (Or.inl hi)) (rSeg_E (by rw [e404]; exact k3) ?_)
              have := gx6 p6
              rw [← hz4] at this
              exact this
            · have := gs8 p8
              rw [x6, x7, e407, ← hz4] at this
              exact rSeg_of (I := J8) (C := sb + c8) (by rw [k8]; exact Int.le_refl _) (fun i _ => ⟨by rw [o9 318 (by decide)], by rw [o9 319 (by decide)]⟩) this
        · rw [w3, yIfs_yes i3 z0 k139, zIfs_yes i3 z0 k139, List.append_assoc]
          rfl
      by_cases f9 : J9 292 13 = 0
      · obtain ⟨-, -, -⟩ := hI.2.2.2.2.2 f9
        have hgt : (I' 292 11).toInt + 1 ≤ (J9 292 11).toInt := by
          have g8 : J8 292 13 = 0 := yS_f0 hN9.1 f9
          have u9 := hN9.2 f9
          have m1 := hN1.1.2.2.1
          have m3 := hM3.1
          have m4 := hN4.1.2.2.1
          have m6 := hM6.1
          have m7 := hN7.1.2.2.1
          have m8 := hM8.1
          rw [f2] at m3
          rw [f5] at m6
          omega
        have t9 := hC9.1.1
        exact ih (400 - (J9 292 11).toInt).toNat (by omega) J9 c8 (br + 1) (n + 1) (i + 1) _ rfl hI g9 (by rw [i_s (by omega), hi]; rfl) (by omega) hF' hT9
      · exact w_X9_tellLaw_12 (fun _ => uLawEnd (d := d) hR hsb hb0 hat eat hI g9 (by rw [zIfs_no (fun c => f9 (by rw [g9.2.1]; exact c.1))] at hF'; exact hF') hb00 (fun pF => absurd (g9.2.1.trans (by rw [← hF'] at pF; exact zIfs_0 (zEx_0 (zMust_0 pF)))) f9)) (fun q => absurd q f9)
    refine w_X9_tellLaw_86 hR (by rw [e344]; exact hin) ?_ ?_ <;> rw [eb4, f5]
    · exact fun q => on _ c3 (by rw [zEx_f (by rw [← g4.2.1]; exact q)]; exact rG_c (by omega) g4) (fun x => absurd (g4.2.1.trans (zEx_0 x)) q) (yE_rf _ _ _) (yM_rf _) (Nat.le_refl _) (yCS_of hC4 (fun j _ => f5 j)) (fun z => absurd z (by rw [f5]; exact q))
    · refine fun q => w_X9_tellLaw_106 (uExprC (d := d + 1) hR hsb' (yCS_of hC4 (fun j _ => f5 j)) (rG_c (by omega) g4)) (fun J6 L6 hq => ?_)
      obtain ⟨rfl, hE6, hM6, ⟨c6, hc6, hC6, hz6⟩, g6, gx6⟩ := hq
      refine on J6 c6 g6 gx6 hE6 hM6 hc6 hC6 (fun z => ?_)
      have := hz6 z
      rw [f5, f5] at this
      exact this
theorem uTellLaw (hR : wkR R) (hsb : (sb = 0 ∧ bb = 0) ∨ (sb = 420 ∧ bb = 130)) {I : qMI} {c br at_ : Nat} {k : Int32} (h : yCS sb c I) (g : rG T K S N I L z) (hb : (I 292 34).toInt = br) (hbr : bb ≤ br ∧ br ≤ bb + 100) (ht : I 292 13 = 0 → 4 * ((br : Int) - bb) + 1 ≤ (I 292 11).toInt) (hat : vp_in (5 * I 292 19 + k) 10) (eat : (5 * I 292 19 + k).toNatClampNeg = at_) : wkV l G (d + 6) n_X9_tellLaw [.ref 292, .int k] I L R (fun I' L' => L' = L ∧ rG T K S N I' L' (zMust K S 59 (zLaw K S z)) ∧ yLP sb bb c br at_ I I' ∧ (pf (zMust K S 59 (zLaw K S z)) = 0 → uLq at_ I' (yLaw K S N z))) := by
  refine wkC_of 2 (by decide) (Nat.le_of_ble_eq_true rfl) (w_X9_tellLaw_0 (rMust (k := 61) (d := d + 2) hR h.1 g (by decide) (by decide)) (fun J L1 hq => w_X9_tellLaw_5 ?_))
  obtain ⟨rfl, hN, -, g1⟩ := hq
  have e34 : J 292 34 = I 292 34 := hN.1.1.2 34 (by decide) (by decide) (by decide) (by decide) (by decide)
  rw [e34]
  refine uLawLoop (d := d) (Y := yLaw K S N z) hR hsb hbr.1 hat eat hb _ J c br 0 0 _ rfl ⟨yL_t hN.1.1, yCS_s h hN.1, ⟨by rw [e34]; exact hb, Nat.le_refl _, hbr.2⟩, yM_s hN.1, Nat.le_refl _, fun q => ?_⟩ g1 rfl (by omega) rfl (fun _ => ⟨[], rfl, (fun j p hp => by cases hp), rfl⟩)
  have := hN.2 q
  have := ht (yS_f0 hN.1 q)
  exact ⟨by omega, by omega, fun b h1 h2 => by omega⟩
end
end
section
/-! ===== the reference's numbers with their values ===== -/
section
variable {l : Launch} {G : qG} {d : Nat} {I : qMI} {L : qML} {R : qMR} {T : Nat} {K S : Nat → Int32} {N : Nat → Int64} {z : pZ}
theorem uBounded (hR : wkR R) (hk : yOk I) (h : rG T K S N I L z) {a b : Int32} : wkI l G (d + 3) n_X9_bounded [.ref 292, .int a, .int b] I L R (fun y I' L' => L' = L ∧ yN I I' ∧ rG T K S N I' L' (zInt K S N a b z) ∧ (pf (zInt K S N a b z) = 0 → y = (N (pt z)).toInt32)) := by
  have bad : ¬ (pf z = 0 ∧ K (pt z) = 3) → wkB l G (d + 2 + 1) n_X9_bounded (wkPI R (fun y I' L' => L' = L ∧ yN I I' ∧ rG T K S N I' L' (zInt K S N a b z) ∧ (pf (zInt K S N a b z) = 0 → y = (N (pt z)).toInt32))) 15 [.ref 292, .int a, .int b, wkU] [] I L R := fun c => by
    have e : zInt K S N a b z = zFail S 1 z := by
      by_cases hf : pf z = 0
      · have e1 : zTake S (decide (K (pt z) = 3)) z = zFail S 1 z := by
          unfold zTake zFail
          rw [if_pos hf, if_pos hf, decide_eq_false (fun x => c ⟨hf, x⟩), if_neg (by decide)]
        unfold zInt
        rw [e1, if_neg (fun x => zFail_n (by decide) x.1)]
      · have e1 : zInt K S N a b z = z := by
          unfold zInt
          rw [zTake_f hf, if_neg (fun x => hf x.1)]
        rw [e1, zFail_f hf]
    refine w_X9_bounded_15 (rFail (d := d + 1) hR hk h.w (by decide) (by decide)) (fun I1 L1 hq => w_X9_bounded_20 ⟨rfl, rfl, _, rfl, hq.1, ⟨hq.2.1, fun q => absurd q hq.2.2.1⟩, ?_⟩)
    rw [e]
    exact ⟨hq.2.2.2.2, fun x => absurd x (zFail_n (by decide))⟩
  refine wkC_of 1 (by decide) (Nat.le_of_ble_eq_true rfl) (w_X9_bounded_0 (fun q => bad (fun x => by rw [h.2.1, x.1] at q; exact absurd q (by decide))) (fun _ => w_X9_bounded_7 (rIs (k := 3) (d := d + 1) hR hk h (by decide)) (fun y I' L' hq => ?_)))
  obtain ⟨rfl, rfl, hy⟩ := hq
  rcases hy with ⟨rfl, hf, hk3⟩ | ⟨rfl, c⟩
  · obtain ⟨a1, a2, a3, a4, a5⟩ := rAt h.w hf
    obtain ⟨h1, h2, h3, h4⟩ := id h
    obtain ⟨⟨b1, b2⟩, b3, b4⟩ := h4 hf
    have ev : I' 297 (I' 292 11).toNatClampNeg = (N (pt z)).toInt32 := by rw [a1]; exact (h1.2.1 (pt z) b2).2.2.2.1 hk3
    have edt : decide (K (pt z) = 3) = true := decide_eq_true hk3
    have go : ∀ (J : qMI) (v : Int32) (z' : pZ), v = (N (pt z)).toInt32 → yS I' J → J 292 11 = I' 292 11 → rGw T K S N J L' z' → pt z' = pt z → (∀ J' M', rG T K S N J' M' (zTake S true z') → rG T K S N J' M' (zInt K S N a b z)) → wkB l G (d + 2 + 1) n_X9_bounded (wkPI R (fun y I1 L1 => L1 = L' ∧ yN I' I1 ∧ rG T K S N I1 L1 (zInt K S N a b z) ∧ (pf (zInt K S N a b z) = 0 → y = (N (pt z)).toInt32))) 51 [.ref 292, .int a, .int b, .int v] [] J L' R := by
      intro J v z' hv hJ e g ept hz
      refine w_X9_bounded_51 (rGoes (d := d) hR hJ.2.1 g (fun _ => by rw [ept, hk3]; decide)) (fun I1 L1 hq => w_X9_bounded_55 ⟨rfl, rfl, _, rfl, hq.1, ⟨yS_tr hJ hq.2.1.1, fun q => ?_⟩, hz _ _ hq.2.2, fun _ => hv⟩)
      rw [hq.2.1.2 q, e]
    have hw : ((N (pt z)).toInt32 < a ∨ b < (N (pt z)).toInt32) → wkB l G (d + 2 + 1) n_X9_bounded (wkPI R (fun y I1 L1 => L1 = L' ∧ yN I' I1 ∧ rG T K S N I1 L1 (zInt K S N a b z) ∧ (pf (zInt K S N a b z) = 0 → y = (N (pt z)).toInt32))) 42 [.ref 292, .int a, .int b, .int (I' 297 (I' 292 11).toNatClampNeg)] [] I' L' R := fun c => by
      refine w_X9_bounded_42 (rWrong (d := d + 1) hR hk h hf (by decide) b1 b2 (fun x => Or.inl (b4 x).2)) (fun I1 L1 hq => ?_)
      obtain ⟨rfl, q1, q2, q3, q4, q5, q6⟩ := hq
      have n1 := zNote_1 (w := 5) (p := S (pt z)) (z := z)
      have npt : pt (zNote 5 (S (pt z)) z) = pt z := by show (zNote 5 (S (pt z)) z).1.1 = _; rw [n1.1]
      have npf : pf (zNote 5 (S (pt z)) z) = pf z := by show (zNote 5 (S (pt z)) z).1.2.1 = _; rw [n1.1]
      refine go I1 _ (zNote 5 (S (pt z)) z) ev q1 q2 ⟨q4, by rw [q3, npf]; exact h2, fun x => absurd (npf.trans hf) x, fun _ => ⟨⟨by rw [q2, npt]; exact b1, by rw [npt]; exact b2⟩, q5, fun x => ⟨q6 x, ?_⟩⟩⟩ npt (fun J' M' g => ?_)
      · rw [npt]
        unfold zNote
        by_cases s0 : z.2.1.1 = 0
        · rw [if_pos s0]; exact Int.le_refl _
        · rw [if_neg s0]; exact Int.le_of_lt (b4 s0).2
      · rw [zNT] at g
        unfold zInt
        rw [edt]
        by_cases t0 : pf (zTake S true z) = 0
        · rw [if_pos ⟨t0, c⟩]; exact g
        · rw [if_neg (fun x => t0 x.1)]
          refine rG_slip g (fun x => t0 ?_) ?_
          · rw [← x]; show _ = (zNote 5 (S (pt z)) (zTake S true z)).1.2.1; rw [zNote_1.1]
          · rw [zNote_1.1]
    refine w_X9_bounded_12 (fun _ => w_X9_bounded_22 hR (yOk_t hk) (fun q => hw (Or.inl (by rw [← ev]; exact q))) (fun q1 => w_X9_bounded_37 (fun q2 => go I' _ z ev (yS_rf hk) rfl h.w rfl (fun J' M' g => ?_)) (fun q2 => hw (Or.inr (by rw [← ev]; exact Int32.not_le.mp q2))))) (fun q => absurd q (by decide))
    unfold zInt
    rw [edt, if_neg (fun x => by rw [ev] at q1 q2; rcases x.2 with y | y; exact q1 y; exact absurd y (Int32.not_lt.mpr q2))]
    exact g
  · exact w_X9_bounded_12 (fun q => absurd rfl q) (fun _ => bad c)
theorem uTold (hR : wkR R) (hk : yOk I) (h : rG T K S N I L z) (hn : pf z = 0 → K (pt z) ≠ 0) {a b : Int32} : wkI l G (d + 4) n_X9_toldInt [.ref 292, .int a, .int b] I L R (fun y I' L' => L' = L ∧ yS I I' ∧ (I' 292 13 = 0 → (I' 292 11).toInt = (I 292 11).toInt + 3) ∧ rG T K S N I' L' (zMust K S 59 (zInt K S N a b (zTake S true z))) ∧ (pf (zMust K S 59 (zInt K S N a b (zTake S true z))) = 0 → y = (N (pt z + 1)).toInt32)) := by
  refine wkC_of 1 (by decide) (Nat.le_of_ble_eq_true rfl) (w_X9_toldInt_0 (rGoes (d := d + 1) hR hk h.w hn) (fun I1 L1 hq => ?_))
  obtain ⟨rfl, h1, g1⟩ := hq
  refine w_X9_toldInt_4 (uBounded (d := d) hR h1.1.2.1 g1) (fun y I2 L2 hq => ?_)
  obtain ⟨rfl, h2, g2, gv⟩ := hq
  refine w_X9_toldInt_10 (rMust (d := d) (k := 59) hR h2.1.2.1 g2 (by decide) (by decide)) (fun I3 L3 hq => ?_)
  obtain ⟨rfl, h3, -, g3⟩ := hq
  refine w_X9_toldInt_16 ⟨rfl, rfl, _, rfl, rfl, yS_tr h1.1 (yS_tr h2.1 h3.1), fun q => ?_, g3, fun q => ?_⟩
  rotate_left
  · have q1 := zMust_0 q
    have e := (zTake_pg (S := S) (b := true) (y := z) (fun x => by have := (h.2.2.2 x).1.2; have := h.1.1.2.1; omega) (zInt_0 q1)).2.1
    rw [gv q1, e]
  have q2 := yS_f0 h3.1 q
  have q1 := yS_f0 h2.1 q2
  have := h3.2 q
  have := h2.2 q2
  have := h1.2 q1
  omega
end
/-! ===== what the reference has of a flat ===== -/
def rRow (s c a b : Nat) (I : qMI) (w : List (Int32 × Int32)) : Prop := ((I c s).toInt = w.length ∧ w.length ≤ 6) ∧ ∀ i p, w[i]? = some p → I a (6 * s + i) = p.1 ∧ I b (6 * s + i) = p.2
def rPr (s B C : Nat) (I : qMI) (k : Nat) (w : aLw) : Prop := (I 311 (5 * s + k) = I 312 (5 * s + k) ∧ w = aLaw0 k) ∨ rLw I (5 * s + k) B C w
def rDa (s B C : Nat) (I : qMI) (A : aD) : Prop := rRow s 301 302 303 I A.1 ∧ rRow s 304 305 306 I A.2.1 ∧ (∀ j, 8 ≤ j → j ≤ 11 → I (299 + j) s = A.2.2.1 j) ∧ ∀ k, k < 5 → rPr s B C I k (A.2.2.2 k)
def rDt (s : Nat) (I : qMI) (A : aD) : Prop := rDa s (I 292 34).toInt.toNat (I 292 40).toInt.toNat I A
section
variable {s B C : Nat} {I J : qMI} {A : aD}
theorem rRow_of {c a b : Nat} {w : List (Int32 × Int32)} (h : rRow s c a b I w) (e1 : J c s = I c s) (e2 : J a = I a) (e3 : J b = I b) : rRow s c a b J w := by
  unfold rRow
  rw [e1, e2, e3]
  exact h
theorem rRow_add {c a b n : Nat} {w : List (Int32 × Int32)} {x v : Int32} (h : rRow s c a b I w) (hn : w.length = n) (n5 : n ≤ 5) (e1 : (J c s).toInt = n + 1) (e2 : ∀ i, J a i = if i = 6 * s + n then x else I a i) (e3 : ∀ i, J b i = if i = 6 * s + n then v else I b i) : rRow s c a b J (w ++ [(x, v)]) := by
  refine ⟨⟨by rw [e1, List.length_append, hn]; rfl, by rw [List.length_append, hn]; show n + 1 ≤ 6; omega⟩, fun i p hp => ?_⟩
  by_cases hi : i < w.length
  · rw [List.getElem?_append_left hi] at hp
    rw [e2, e3, if_neg (by omega), if_neg (by omega)]
    exact h.2 i p hp
  · have hi2 : i = n := by
      have := (List.getElem?_eq_some_iff.mp hp).1
      rw [List.length_append, List.length_singleton] at this
      omega
    rw [hi2, List.getElem?_append_right (by omega), hn, Nat.sub_self] at hp
    injection hp with hp
    rw [e2, e3, hi2, if_pos rfl, if_pos rfl, ← hp]
    exact ⟨rfl, rfl⟩
theorem rPr_of {B' C' k : Nat} {w : aLw} (hB : B ≤ B') (hC : C ≤ C') (e : ∀ i, i < C → J 318 i = I 318 i ∧ J 319 i = I 319 i) (eb : ∀ b, b < B → J 313 b = I 313 b ∧ J 314 b = I 314 b ∧ J 315 b = I 315 b ∧ J 316 b = I 316 b ∧ J 317 b = I 317 b) (e1 : J 311 (5 * s + k) = I 311 (5 * s + k)) (e2 : J 312 (5 * s + k) = I 312 (5 * s + k)) (h : rPr s B C I k w) : rPr s B' C' J k w := by
  rcases h with ⟨h, hw⟩ | h
  · exact Or.inl ⟨by rw [e1, e2]; exact h, hw⟩
  · exact Or.inr (rLw_of hC hB e eb e1 e2 h)
/-- the laws hang on these cells alone -/
theorem rPr_c {k : Nat} {w : aLw} (e : ∀ x, 311 ≤ x → x ≤ 319 → J x = I x) (h : rPr s B C I k w) : rPr s B C J k w := by
  refine rPr_of (Nat.le_refl _) (Nat.le_refl _) (fun i _ => ?_) (fun b _ => ?_) ?_ ?_ h
  · rw [e 318 (by decide) (by decide), e 319 (by decide) (by decide)]; exact ⟨rfl, rfl⟩
  · rw [e 313 (by decide) (by decide), e 314 (by decide) (by decide), e 315 (by decide) (by decide), e 316 (by decide) (by decide), e 317 (by decide) (by decide)]; exact ⟨rfl, rfl, rfl, rfl, rfl⟩
  · rw [e 311 (by decide) (by decide)]
  · rw [e 312 (by decide) (by decide)]
theorem rDt_of (h : rDt s I A) (e34 : J 292 34 = I 292 34) (e40 : J 292 40 = I 292 40) (e : ∀ x, 301 ≤ x → x ≤ 319 → J x = I x) : rDt s J A := by
  unfold rDt at h ⊢
  rw [e34, e40]
  obtain ⟨h1, h2, h3, h4⟩ := h
  exact ⟨rRow_of h1 (by rw [e 301 (by decide) (by decide)]) (e 302 (by decide) (by decide)) (e 303 (by decide) (by decide)), rRow_of h2 (by rw [e 304 (by decide) (by decide)]) (e 305 (by decide) (by decide)) (e 306 (by decide) (by decide)), fun j a b => by rw [e (299 + j) (by omega) (by omega)]; exact h3 j a b, fun k hk => rPr_c (fun x a b => e x (by omega) b) (h4 k hk)⟩
theorem rDt_thing {n : Nat} {x v : Int32} (h : rDt s I A) (e34 : J 292 34 = I 292 34) (e40 : J 292 40 = I 292 40) (e : ∀ y, 304 ≤ y → y ≤ 319 → J y = I y) (hn : (I 301 s).toInt = n) (n5 : n ≤ 5) (e1 : (J 301 s).toInt = n + 1) (e2 : ∀ i, J 302 i = if i = 6 * s + n then x else I 302 i) (e3 : ∀ i, J 303 i = if i = 6 * s + n then v else I 303 i) : rDt s J (A.1 ++ [(x, v)], A.2) := by
  unfold rDt at h ⊢
  rw [e34, e40]
  obtain ⟨h1, h2, h3, h4⟩ := h
  exact ⟨rRow_add h1 (by have := h1.1.1; omega) n5 e1 e2 e3, rRow_of h2 (by rw [e 304 (by decide) (by decide)]) (e 305 (by decide) (by decide)) (e 306 (by decide) (by decide)), fun j a b => by rw [e (299 + j) (by omega) (by omega)]; exact h3 j a b, fun k hk => rPr_c (fun x a b => e x (by omega) b) (h4 k hk)⟩
theorem rDt_seat {n : Nat} {x v : Int32} (h : rDt s I A) (e34 : J 292 34 = I 292 34) (e40 : J 292 40 = I 292 40) (e : ∀ y, 301 ≤ y → y ≤ 319 → y ≠ 304 → y ≠ 305 → y ≠ 306 → J y = I y) (hn : (I 304 s).toInt = n) (n5 : n ≤ 5) (e1 : (J 304 s).toInt = n + 1) (e2 : ∀ i, J 305 i = if i = 6 * s + n then x else I 305 i) (e3 : ∀ i, J 306 i = if i = 6 * s + n then v else I 306 i) : rDt s J (A.1, A.2.1 ++ [(x, v)], A.2.2) := by
  unfold rDt at h ⊢
  rw [e34, e40]
  obtain ⟨h1, h2, h3, h4⟩ := h
  exact ⟨rRow_of h1 (by rw [e 301 (by decide) (by decide) (by decide) (by decide) (by decide)]) (e 302 (by decide) (by decide) (by decide) (by decide) (by decide)) (e 303 (by decide) (by decide) (by decide) (by decide) (by decide)), rRow_add h2 (by have := h2.1.1; omega) n5 e1 e2 e3, fun j a b => by rw [e (299 + j) (by omega) (by omega) (by omega) (by omega) (by omega)]; exact h3 j a b, fun k hk => rPr_c (fun x a b => e x (by omega) b (by omega) (by omega) (by omega)) (h4 k hk)⟩
theorem rDt_set {n : Nat} {v : Int32} (hn : 8 ≤ n ∧ n ≤ 11) (h : rDt s I A) (e34 : J 292 34 = I 292 34) (e40 : J 292 40 = I 292 40) (e : ∀ y, 301 ≤ y → y ≤ 319 → y ≠ 299 + n → J y = I y) (e1 : J (299 + n) s = v) : rDt s J (A.1, A.2.1, (fun j => if j = n then v else A.2.2.1 j), A.2.2.2) := by
  unfold rDt at h ⊢
  rw [e34, e40]
  obtain ⟨h1, h2, h3, h4⟩ := h
  refine ⟨rRow_of h1 (by rw [e 301 (by decide) (by decide) (by omega)]) (e 302 (by decide) (by decide) (by omega)) (e 303 (by decide) (by decide) (by omega)), rRow_of h2 (by rw [e 304 (by decide) (by decide) (by omega)]) (e 305 (by decide) (by decide) (by omega)) (e 306 (by decide) (by decide) (by omega)), fun j a b => ?_, fun k hk => rPr_c (fun x a b => e x (by omega) b (by omega)) (h4 k hk)⟩
  show J (299 + j) s = if j = n then v else A.2.2.1 j
  by_cases q : j = n
  · rw [if_pos q, q]; exact e1
  · rw [if_neg q, e (299 + j) (by omega) (by omega) (by omega)]; exact h3 j a b
end
/-- the other side's cells stay -/
def uFr (s : Nat) (I I' : qMI) : Prop := (∀ k i, (k = 302 ∨ k = 303 ∨ k = 305 ∨ k = 306) → (i < 6 * s ∨ 6 * s + 6 ≤ i) → I' k i = I k i) ∧ ∀ k i, 307 ≤ k → k ≤ 310 → i ≠ s → I' k i = I k i
theorem uFr_o {s : Nat} {I J : qMI} (h : ∀ k, 302 ≤ k → k ≤ 310 → J k = I k) : uFr s I J := ⟨fun k i a _ => by rw [h k (by omega) (by omega)], fun k i a b _ => by rw [h k (by omega) b]⟩
theorem uFr_tr {s : Nat} {I J M : qMI} (h : uFr s I J) (g : uFr s J M) : uFr s I M := ⟨fun k i a b => (g.1 k i a b).trans (h.1 k i a b), fun k i a b c => (g.2 k i a b c).trans (h.2 k i a b c)⟩
theorem uFr_up {s k i : Nat} {x : Int32} {I : qMI} (h1 : (k = 302 ∨ k = 303 ∨ k = 305 ∨ k = 306) → 6 * s ≤ i ∧ i < 6 * s + 6) (h2 : 307 ≤ k → k ≤ 310 → i = s) : uFr s I (qUp I k i x) := ⟨fun k' i' a b => qUp_ne (fun q => by omega), fun k' i' a b c => qUp_ne (fun q => by omega)⟩
/-- as rP1, with the account -/
def uP1 (T : Nat) (K S : Nat → Int32) (N : Nat → Int64) (s : Nat) (I0 : qMI) (L0 : qML) (I : qMI) (z' : pZ) (A' : aD) (I' : qMI) (L' : qML) : Prop := rP1 T K S N s I0 L0 I z' I' L' ∧ (pf z' = 0 → rDt s I' A') ∧ uFr s I I'
theorem zFail_pt {S : Nat → Int32} {w : Int32} {z : pZ} : pt (zFail S w z) = pt z := by
  unfold zFail
  split <;> rfl
section
variable {l : Launch} {G : qG} {d : Nat} {I I0 : qMI} {L L0 : qML} {R : qMR} {s c br th se : Nat} {T : Nat} {K S : Nat → Int32} {N : Nat → Int64} {z : pZ} {A : aD}
theorem uThing (hR : wkR R) (hs : s = 0 ∨ s = 1) (h19 : (I0 292 19).toInt = s) (hQ : rQs T K S N s I0 L0 I L z c br th se) (z0 : pf z = 0) (hK : K (pt z) = 128) (hA : rDt s I A) : wkB l G (d + 4 + 1) n_X9_tellOne (wkPV R (fun I' L' => uP1 T K S N s I0 L0 I (zTell K S N z) (aTell K S N z A) I' L')) 68 [.ref 292, wkU] [] I L R := by
  obtain ⟨h, g, hL0, hZ⟩ := hQ
  have f0 : I 292 13 = 0 := by rw [g.2.1]; exact z0
  obtain ⟨⟨zt, zs⟩, hnm⟩ := hZ z0
  have e19 : ∀ J c br th se, yPS s I0 J c br th se → (J 292 19).toInt = s := fun J c br th se hJ => by rw [hJ.1.2.2.2.2.2 19 (by decide) (by decide) (by decide) (by decide) (by decide) (by decide) (by decide) (by decide) (by decide) (by decide)]; exact h19
  have v19 : ∀ J c br th se, yPS s I0 J c br th se → vp_in (J 292 19) 2 ∧ (J 292 19).toNatClampNeg = s := fun J c br th se hJ => by have := e19 J c br th se hJ; exact ⟨vin (by omega) (by omega), by rw [tcn]; omega⟩
  obtain ⟨v1, w1⟩ := v19 _ _ _ _ _ h
  refine w_X9_tellOne_68 hR v1 (rRoom (d := d + 1) hR h.2.1.1 g (fun _ => by rw [hK]; decide)) (fun I1 L1 hq => ?_)
  obtain ⟨rfl, hN1, hne, g1⟩ := hq
  rw [w1] at hne g1
  have e6 : (I 301 s = 6) ↔ 6 ≤ z.2.2.2.1 := by
    have b := h.2.2.2.1
    rw [i_eq, show (6 : Int32).toInt = 6 from rfl]
    omega
  have ey : (if I 301 s = 6 then zFail S 2 z else z) = (if 6 ≤ z.2.2.2.1 then zFail S 2 z else z) := by
    by_cases q : I 301 s = 6
    · rw [if_pos q, if_pos (e6.mp q)]
    · rw [if_neg q, if_neg (fun x => q (e6.mpr x))]
  rw [ey] at g1
  have eA : aTell K S N z A = (A.1 ++ [((N (pt z + 2)).toInt32, (N (pt z + 3)).toInt32)], A.2) := by unfold aTell; rw [if_pos hK]
  rw [eA, zTell_128 hK]
  have y3 : (zTake S true (if 6 ≤ z.2.2.2.1 then zFail S 2 z else z)).2 = z.2 := by
    rw [zTake_2]
    split
    · exact zFail_2
    · rfl
  have z4 : pt z ≤ 400 := by have := (g.2.2.2 z0).1.2; have := g.1.1.2.1; omega
  have y1 : pf (zTake S true (if 6 ≤ z.2.2.2.1 then zFail S 2 z else z)) = 0 → pt (zTake S true (if 6 ≤ z.2.2.2.1 then zFail S 2 z else z)) = pt z + 1 := fun q => by
    have e : pt (if 6 ≤ z.2.2.2.1 then zFail S 2 z else z) = pt z := by
      split
      · exact zFail_pt
      · rfl
    rw [← e]
    exact (zTake_pg (S := S) (fun _ => by rw [e]; exact z4) q).2.1
  generalize zTake S true (if 6 ≤ z.2.2.2.1 then zFail S 2 z else z) = y at g1 y3 y1
  have h1 := yPS_s h hN1.1
  have e20 : I1 292 20 = I 292 20 := hN1.1.1.2 20 (by decide) (by decide) (by decide) (by decide) (by decide)
  refine w_X9_tellOne_83 (fun q => ?_) (fun q => w_X9_tellOne_90 ⟨rfl, rfl, rfl, ⟨c, br, th, se, ⟨h1, ?_, hL0, fun x => ?_⟩, fun x => absurd (by rw [x]; decide) q⟩, fun x => ?_, uFr_o (fun k a b => hN1.1.1.1 k (by omega))⟩)
  rotate_left
  · have yf : pf y ≠ 0 := fun x => q (by rw [g1.2.1, x]; decide)
    rw [zStand_f yf, zMust_f yf]
    exact g1
  · have yf : pf y ≠ 0 := fun x => q (by rw [g1.2.1, x]; decide)
    rw [zStand_f yf, zMust_f yf] at x
    exact absurd x yf
  · have yf : pf y ≠ 0 := fun x => q (by rw [g1.2.1, x]; decide)
    rw [zStand_f yf, zMust_f yf] at x
    exact absurd x yf
  have g1' := yf0 h1.2.1.1 q
  have y0 : pf y = 0 := by rw [← g1.2.1]; exact g1'
  have hlt : th ≤ 5 := by
    have a := hne g1'
    have b := h.2.2.2.1
    have : ¬ (I 301 s).toInt = 6 := fun x => a (i_eq.mpr x)
    omega
  refine w_X9_tellOne_91 (rNamed (d := d) hR h1.2.1.1 h1.2.2.2.2.1.2 h1.2.2.2.2.1.1 g1 y0 (by rw [y3]; exact rNm_s hnm e20)) (fun tk I2 L2 hq => ?_)
  obtain ⟨rfl, rfl, hN2, g2⟩ := hq
  have h2 := yPS_s h1 hN2.1
  obtain ⟨v2, w2⟩ := v19 _ _ _ _ _ h2
  have ix : ∀ J, yPS s I0 J c br th se → (6 * J 292 19 + J 301 s).toInt = 6 * s + th := by
    intro J hJ
    have a := e19 _ _ _ _ _ hJ
    have b := hJ.2.2.2.1
    have e6 : ((6 : Int32) * J 292 19).toInt = 6 * s := by rw [i_mul (by rw [show (6 : Int32).toInt = 6 from rfl]; omega) (by rw [show (6 : Int32).toInt = 6 from rfl]; omega), show (6 : Int32).toInt = 6 from rfl, a]
    rw [i_add (by omega) (by omega), e6]
    omega
  refine w_X9_tellOne_95 hR v2 (uBounded (d := d + 1) hR h2.2.1.1 g2) (fun y' I3 L3 hq => ?_)
  obtain ⟨rfl, hN3, g3, gv3⟩ := hq
  have h3 := yPS_s h2 hN3.1
  rw [w2]
  have i2 := ix _ h2
  have h4 := yPS_w (k := 302) (i := (6 * I2 292 19 + I2 301 s).toNatClampNeg) (x := y') (by omega) h3
  obtain ⟨v4, w4⟩ := v19 _ _ _ _ _ h4
  refine w_X9_tellOne_124 hR (vin (by omega) (by omega)) v4 (uBounded (d := d + 1) hR h4.2.1.1 (rG_c (by omega) g3)) (fun y2 I5 L5 hq => ?_)
  obtain ⟨rfl, hN5, g5, gv5⟩ := hq
  rw [w4]
  have i4 := ix _ h4
  have h5 := yPS_s h4 hN5.1
  have h6 := yPS_w (k := 303) (i := (6 * (qUp I3 302 (6 * I2 292 19 + I2 301 s).toNatClampNeg y') 292 19 + (qUp I3 302 (6 * I2 292 19 + I2 301 s).toNatClampNeg y') 301 s).toNatClampNeg) (x := y2) (by omega) h5
  have g6 : rG T K S N _ L5 (zStand K S N true y) := rG_z (rG_c (k := 303) (i := (6 * (qUp I3 302 (6 * I2 292 19 + I2 301 s).toNatClampNeg y') 292 19 + (qUp I3 302 (6 * I2 292 19 + I2 301 s).toNatClampNeg y') 301 s).toNatClampNeg) (x := y2) (by omega) g5) zStand_true.1 zStand_true.2
  refine w_X9_tellOne_153 (vin (by omega) (by omega)) (rEnds (d := d) hR h6.2.1.1 (yOk_t h1.2.1.1) (fun x => ?_) g6) (fun I7 L7 hq => ?_)
  · have a := (h6.2.2.2.2.2 x).1
    have b := h6.2.2.2.1
    exact vin (by omega) (by omega)
  obtain ⟨g7, hq⟩ := hq
  have fr6 : uFr s I (qUp I5 303 (6 * (qUp I3 302 (6 * I2 292 19 + I2 301 s).toNatClampNeg y') 292 19 + (qUp I3 302 (6 * I2 292 19 + I2 301 s).toNatClampNeg y') 301 s).toNatClampNeg y2) := uFr_tr (uFr_o (fun k a b => hN1.1.1.1 k (by omega))) (uFr_tr (uFr_o (fun k a b => hN2.1.1.1 k (by omega))) (uFr_tr (uFr_o (fun k a b => hN3.1.1.1 k (by omega))) (uFr_tr (uFr_up (k := 302) (i := (6 * I2 292 19 + I2 301 s).toNatClampNeg) (x := y') (fun _ => by rw [tcn, i2]; omega) (by omega)) (uFr_tr (uFr_o (fun k a b => hN5.1.1.1 k (by omega))) (uFr_up (fun _ => by rw [tcn, i4]; omega) (by omega))))))
  rcases hq with ⟨q1, q2, rfl⟩ | ⟨q1, ⟨J, q2, q3, q4⟩, qL⟩
  · exact w_X9_tellOne_159 (fun _ => w_X9_tellOne_427 ⟨rfl, rfl, rfl, ⟨c, br, th, se, ⟨yPS_s h6 q2, g7, hL0, fun x => absurd (g7.2.1.trans x) q1⟩, fun x => absurd x q1⟩, fun x => absurd (g7.2.1.trans x) q1, uFr_tr fr6 (uFr_o (fun k a b => q2.1.1 k (by omega)))⟩) (fun x => absurd x q1)
  · have hJ := yPS_s h6 q2.1
    refine w_X9_tellOne_159 (fun x => absurd q1 x) (fun _ => ?_)
    have o7 : ∀ k, k ≠ 292 → I7 k = J k := fun k a => by rw [q4]; exact funext fun i => qUp_ne (fun q => a q.1)
    have f7 : ∀ j, j ≠ 20 → I7 292 j = J 292 j := fun j a => by rw [q4]; exact qUp_ne (fun q => a q.2)
    have e7 : (I7 292 19).toInt = s := by rw [f7 19 (by decide)]; exact e19 _ _ _ _ _ hJ
    have v7 : vp_in (I7 292 19) 2 := vin (by omega) (by omega)
    have w7 : (I7 292 19).toNatClampNeg = s := by rw [tcn]; omega
    have m0 : pf (zMust K S 59 (zStand K S N true y)) = 0 := by rw [← g7.2.1]; exact q1
    have m1 : pf (zStand K S N true y) = 0 := zMust_0 m0
    obtain ⟨-, yk, ym⟩ := zName_0 (zStand_0 m1)
    have mc := (zStand_c m1).2
    have e20z : (I7 292 20).toInt = (I 292 20).toInt + 1 := by
      rw [q4, qUp_at, if_pos ⟨rfl, rfl⟩, i_s (by have := h6.2.2.2.2.1; omega)]
      rw [qUp_ne (by omega), hN5.1.1.2 20 (by decide) (by decide) (by decide) (by decide) (by decide), qUp_ne (by omega), hN3.1.1.2 20 (by decide) (by decide) (by decide) (by decide) (by decide), hN2.1.1.2 20 (by decide) (by decide) (by decide) (by decide) (by decide), e20]
    have tkv : (I1 292 11).toNatClampNeg = pt y := (rAt g1.w y0).1
    have nv : L5 298 (I1 292 11).toNatClampNeg = N (pt y) := by rw [tkv]; exact (g1.1.2.1 _ (rAt g1.w y0).2.1).2.2.2.2 yk
    refine w_X9_tellOne_166 hR v7 v7 (w_X9_tellOne_427 ⟨rfl, rfl, rfl, ⟨c, br, (th + 1), se, ⟨?_, ?_, ?_, fun _ => ⟨⟨?_, ?_⟩, ?_⟩⟩, fun _ => ?_⟩, fun _ => ?_, ?_⟩)
    rotate_right
    · exact uFr_tr fr6 (uFr_tr (uFr_o (fun k a b => q2.1.1.1 k (by omega))) (uFr_tr (uFr_o (fun k a b => o7 k (by omega))) (uFr_up (by omega) (by omega))))
    rotate_right
    · rw [w7]
      have y4 : pt y ≤ 400 := by have := (g1.2.2.2 y0).1.2; have := g1.1.1.2.1; omega
      have p1 : pf (zInt K S N 1 9 (zInt K S N 0 19 (zName K S N y))) = 0 := by
        have e := (zStand_true (K := K) (S := S) (N := N) (z := y)).1
        have m1' : (zStand K S N true y).1.2.1 = 0 := m1
        rw [e] at m1'
        exact m1'
      have p2 := zInt_0 p1
      have n3 := zName_pt (K := K) (S := S) (N := N) (fun _ => y4) (zInt_0 p2)
      have g24 : pt (zName K S N y) ≤ 400 := by have := (g2.2.2.2 (zInt_0 p2)).1.2; have := g2.1.1.2.1; omega
      have n4 := zInt_pt (K := K) (S := S) (N := N) (fun _ => g24) p2
      have ex := gv3 p2
      have ev := gv5 p1
      rw [n3, y1 y0] at ex
      rw [n4, n3, y1 y0] at ev
      have t2 : (6 * I2 292 19 + I2 301 s).toNatClampNeg = 6 * s + th := by rw [tcn, i2]; omega
      have t4 : (6 * (qUp I3 302 (6 * I2 292 19 + I2 301 s).toNatClampNeg y') 292 19 + (qUp I3 302 (6 * I2 292 19 + I2 301 s).toNatClampNeg y') 301 s).toNatClampNeg = 6 * s + th := by rw [tcn, i4]; omega
      have oJ : ∀ k, k ≠ 292 → J k = (qUp I5 303 (6 * (qUp I3 302 (6 * I2 292 19 + I2 301 s).toNatClampNeg y') 292 19 + (qUp I3 302 (6 * I2 292 19 + I2 301 s).toNatClampNeg y') 301 s).toNatClampNeg y2) k := fun k a => q2.1.1.1 k a
      have o5 : ∀ k, k ≠ 292 → I5 k = (qUp I3 302 (6 * I2 292 19 + I2 301 s).toNatClampNeg y') k := fun k a => hN5.1.1.1 k a
      have o3 : ∀ k, k ≠ 292 → I3 k = I k := fun k a => by rw [hN3.1.1.1 k a, hN2.1.1.1 k a, hN1.1.1.1 k a]
      have oF : ∀ k, k ≠ 292 → k ≠ 301 → k ≠ 302 → k ≠ 303 → (qUp I7 301 s (I7 301 s + 1)) k = I k := fun k a b c' d' => by
        rw [show (qUp I7 301 s (I7 301 s + 1)) k = I7 k from funext fun i => qUp_ne (fun q => b q.1), o7 k a, oJ k a, show (qUp I5 303 (6 * (qUp I3 302 (6 * I2 292 19 + I2 301 s).toNatClampNeg y') 292 19 + (qUp I3 302 (6 * I2 292 19 + I2 301 s).toNatClampNeg y') 301 s).toNatClampNeg y2) k = I5 k from funext fun i => qUp_ne (fun q => d' q.1), o5 k a, show (qUp I3 302 (6 * I2 292 19 + I2 301 s).toNatClampNeg y') k = I3 k from funext fun i => qUp_ne (fun q => c' q.1), o3 k a]
      have fk : ∀ j, (j = 34 ∨ j = 40) → (qUp I7 301 s (I7 301 s + 1)) 292 j = I 292 j := fun j hj => by
        rw [qUp_ne (by omega), f7 j (by omega), q2.1.1.2 j (by omega) (by omega) (by omega) (by omega) (by omega), qUp_ne (by omega), hN5.1.1.2 j (by omega) (by omega) (by omega) (by omega) (by omega), qUp_ne (by omega), hN3.1.1.2 j (by omega) (by omega) (by omega) (by omega) (by omega), hN2.1.1.2 j (by omega) (by omega) (by omega) (by omega) (by omega), hN1.1.1.2 j (by omega) (by omega) (by omega) (by omega) (by omega)]
      have nI : (I 301 s).toInt = th := by have := h.2.2.2.1; omega
      have e7C : I7 301 s = I 301 s := by rw [o7 301 (by decide), oJ 301 (by decide), qUp_ne (by omega), o5 301 (by decide), qUp_ne (by omega), o3 301 (by decide)]
      refine rDt_thing (n := th) hA (fk 34 (by omega)) (fk 40 (by omega)) (fun k a b => oF k (by omega) (by omega) (by omega) (by omega)) nI hlt ?_ (fun i => ?_) (fun i => ?_)
      · rw [qUp_at, if_pos ⟨rfl, rfl⟩, e7C, i_s (by omega), nI]
      · rw [qUp_ne (by omega), o7 302 (by decide), oJ 302 (by decide), qUp_ne (by omega), o5 302 (by decide), qUp_at, t2, o3 302 (by decide), ex]
        by_cases hi : i = 6 * s + th
        · rw [if_pos ⟨rfl, hi⟩, if_pos hi]
        · rw [if_neg (fun q => hi q.2), if_neg hi]
      · rw [qUp_ne (by omega), o7 303 (by decide), oJ 303 (by decide), qUp_at, t4, o5 303 (by decide), qUp_ne (by omega), o3 303 (by decide), ev]
        by_cases hi : i = 6 * s + th
        · rw [if_pos ⟨rfl, hi⟩, if_pos hi]
        · rw [if_neg (fun q => hi q.2), if_neg hi]
    · rw [w7]
      have hCt : (J 301 s).toInt = th := by have := hJ.2.2.2.1; omega
      have fz : ∀ j, (qUp I7 301 s (I7 301 s + 1)) 292 j = I7 292 j := fun j => qUp_ne (by omega)
      have oz : ∀ k, k ≠ 292 → k ≠ 301 → (qUp I7 301 s (I7 301 s + 1)) k = J k := fun k a b => (funext fun i => qUp_ne (fun q => b q.1)).trans (o7 k a)
      have eC : ((qUp I7 301 s (I7 301 s + 1)) 301 s).toInt = th + 1 := by rw [qUp_at, if_pos ⟨rfl, rfl⟩, o7 301 (by decide), i_s (by omega), hCt]
      obtain ⟨j1, j2, j3, j4, j5, j6⟩ := hJ
      obtain ⟨x1, x2, x3, x4⟩ := j6 q3
      have e20 : (I7 292 20).toInt = th + se + 1 := by
        rw [q4, qUp_at, if_pos ⟨rfl, rfl⟩, i_s (by have := h6.2.2.2.2.1; omega)]
        have := (h6.2.2.2.2.2 (yS_f0 q2.1 q3)).1
        omega
      refine ⟨yF_tr j1 (yF_tr (by rw [q4]; exact yF_up (by omega)) (yF_up (by omega))), yCS_of j2 (fun j hj => by rw [fz, f7 j (by omega)]), by rw [fz, f7 34 (by decide)]; exact j3, ?_, by rw [fz]; omega, fun _ => ⟨by rw [fz, e20]; omega, by rw [fz, f7 11 (by decide)]; exact x2, fun b b1 b2 => ?_, fun k hk => by rw [oz 311 (by decide) (by decide), oz 312 (by decide) (by decide)]; exact x4 k hk⟩⟩
      · rw [eC, oz 304 (by decide) (by decide)]
        omega
      · exact yB_congr (Nat.le_refl _) (fun i _ => ⟨by rw [oz 318 (by decide) (by decide)], by rw [oz 319 (by decide) (by decide)]⟩) ⟨by rw [oz 313 (by decide) (by decide)], by rw [oz 314 (by decide) (by decide)], by rw [oz 315 (by decide) (by decide)], by rw [oz 316 (by decide) (by decide)], by rw [oz 317 (by decide) (by decide)]⟩ (x3 b b1 b2)
    · exact rG_c (by omega) g7
    · intro k hk
      rw [qL]
      exact (funext fun i => by rw [qUpL_at, if_neg (fun x => hk x.1)]).trans (hL0 k hk)
    · show (th + 1) = (zMust K S 59 (zStand K S N true y)).2.2.2.1
      rw [zMust_2, mc, y3, zt]
      rfl
    · show se = (zMust K S 59 (zStand K S N true y)).2.2.2.2
      rw [zMust_2, mc, y3, zs]
      rfl
    · intro x
      rw [zMust_2, zStand_1.2.2, ym, y3, hnm x, qUp_ne (by omega), e20z, qL]
      have e20n : ((qUp I5 303 (6 * (qUp I3 302 (6 * I2 292 19 + I2 301 s).toNatClampNeg y') 292 19 + (qUp I3 302 (6 * I2 292 19 + I2 301 s).toNatClampNeg y') 301 s).toNatClampNeg y2) 292 20) = I 292 20 := by
        rw [qUp_ne (by omega), hN5.1.1.2 20 (by decide) (by decide) (by decide) (by decide) (by decide), qUp_ne (by omega), hN3.1.1.2 20 (by decide) (by decide) (by decide) (by decide) (by decide), hN2.1.1.2 20 (by decide) (by decide) (by decide) (by decide) (by decide), e20]
      rw [e20n, nv]
      have n0 := h.2.2.2.2.1.1
      constructor
      · rintro (q | ⟨k, k1, k2⟩)
        · exact ⟨(I 292 20).toNatClampNeg, by rw [tcn]; omega, by rw [qUpL_at, if_pos ⟨rfl, rfl⟩]; exact q.symm⟩
        · exact ⟨k, by omega, by rw [qUpL_at, if_neg (fun x => by have := x.2; rw [tcn] at this; omega)]; exact k2⟩
      · rintro ⟨k, k1, k2⟩
        rw [qUpL_at] at k2
        by_cases q : k = (I 292 20).toNatClampNeg
        · rw [if_pos ⟨rfl, q⟩] at k2; exact Or.inl k2.symm
        · rw [if_neg (fun x => q x.2)] at k2
          exact Or.inr ⟨k, by rw [tcn] at q; omega, k2⟩
    · rw [qUp_ne (by omega), f7 11 (by decide)]
      have t1 := hN1.2 g1'
      have t2 := hN2.1.2.2.1
      have t3 := hN3.1.2.2.1
      have t5 := hN5.1.2.2.1
      have t7 := q2.1.2.2.1
      rw [qUp_ne (by omega)] at t5 t7
      omega
theorem uSeat (hR : wkR R) (hs : s = 0 ∨ s = 1) (h19 : (I0 292 19).toInt = s) (hQ : rQs T K S N s I0 L0 I L z c br th se) (z0 : pf z = 0) (hK : K (pt z) = 129) (hA : rDt s I A) : wkB l G (d + 4 + 1) n_X9_tellOne (wkPV R (fun I' L' => uP1 T K S N s I0 L0 I (zTell K S N z) (aTell K S N z A) I' L')) 182 [.ref 292, wkU] [] I L R := by
  obtain ⟨h, g, hL0, hZ⟩ := hQ
  have f0 : I 292 13 = 0 := by rw [g.2.1]; exact z0
  obtain ⟨⟨zt, zs⟩, hnm⟩ := hZ z0
  have e19 : ∀ J c br th se, yPS s I0 J c br th se → (J 292 19).toInt = s := fun J c br th se hJ => by rw [hJ.1.2.2.2.2.2 19 (by decide) (by decide) (by decide) (by decide) (by decide) (by decide) (by decide) (by decide) (by decide) (by decide)]; exact h19
  have v19 : ∀ J c br th se, yPS s I0 J c br th se → vp_in (J 292 19) 2 ∧ (J 292 19).toNatClampNeg = s := fun J c br th se hJ => by have := e19 J c br th se hJ; exact ⟨vin (by omega) (by omega), by rw [tcn]; omega⟩
  obtain ⟨v1, w1⟩ := v19 _ _ _ _ _ h
  refine w_X9_tellOne_182 hR v1 (rRoom (d := d + 1) hR h.2.1.1 g (fun _ => by rw [hK]; decide)) (fun I1 L1 hq => ?_)
  obtain ⟨rfl, hN1, hne, g1⟩ := hq
  rw [w1] at hne g1
  have e6 : (I 304 s = 6) ↔ 6 ≤ z.2.2.2.2 := by
    have b := h.2.2.2.1
    rw [i_eq, show (6 : Int32).toInt = 6 from rfl]
    omega
  have ey : (if I 304 s = 6 then zFail S 2 z else z) = (if 6 ≤ z.2.2.2.2 then zFail S 2 z else z) := by
    by_cases q : I 304 s = 6
    · rw [if_pos q, if_pos (e6.mp q)]
    · rw [if_neg q, if_neg (fun x => q (e6.mpr x))]
  rw [ey] at g1
  have eA : aTell K S N z A = (A.1, A.2.1 ++ [((N (pt z + 2)).toInt32, (N (pt z + 3)).toInt32)], A.2.2) := by unfold aTell; rw [if_neg (by rw [hK]; decide), if_pos hK]
  rw [eA, zTell_129 hK]
  have y3 : (zTake S true (if 6 ≤ z.2.2.2.2 then zFail S 2 z else z)).2 = z.2 := by
    rw [zTake_2]
    split
    · exact zFail_2
    · rfl
  have z4 : pt z ≤ 400 := by have := (g.2.2.2 z0).1.2; have := g.1.1.2.1; omega
  have y1 : pf (zTake S true (if 6 ≤ z.2.2.2.2 then zFail S 2 z else z)) = 0 → pt (zTake S true (if 6 ≤ z.2.2.2.2 then zFail S 2 z else z)) = pt z + 1 := fun q => by
    have e : pt (if 6 ≤ z.2.2.2.2 then zFail S 2 z else z) = pt z := by
      split
      · exact zFail_pt
      · rfl
    rw [← e]
    exact (zTake_pg (S := S) (fun _ => by rw [e]; exact z4) q).2.1
  generalize zTake S true (if 6 ≤ z.2.2.2.2 then zFail S 2 z else z) = y at g1 y3 y1
  have h1 := yPS_s h hN1.1
  have e20 : I1 292 20 = I 292 20 := hN1.1.1.2 20 (by decide) (by decide) (by decide) (by decide) (by decide)
  refine w_X9_tellOne_197 (fun q => ?_) (fun q => w_X9_tellOne_204 ⟨rfl, rfl, rfl, ⟨c, br, th, se, ⟨h1, ?_, hL0, fun x => ?_⟩, fun x => absurd (by rw [x]; decide) q⟩, fun x => ?_, uFr_o (fun k a b => hN1.1.1.1 k (by omega))⟩)
  rotate_left
  · have yf : pf y ≠ 0 := fun x => q (by rw [g1.2.1, x]; decide)
    rw [zStand_f yf, zMust_f yf]
    exact g1
  · have yf : pf y ≠ 0 := fun x => q (by rw [g1.2.1, x]; decide)
    rw [zStand_f yf, zMust_f yf] at x
    exact absurd x yf
  · have yf : pf y ≠ 0 := fun x => q (by rw [g1.2.1, x]; decide)
    rw [zStand_f yf, zMust_f yf] at x
    exact absurd x yf
  have g1' := yf0 h1.2.1.1 q
  have y0 : pf y = 0 := by rw [← g1.2.1]; exact g1'
  have hlt : se ≤ 5 := by
    have a := hne g1'
    have b := h.2.2.2.1
    have : ¬ (I 304 s).toInt = 6 := fun x => a (i_eq.mpr x)
    omega
  refine w_X9_tellOne_205 (rNamed (d := d) hR h1.2.1.1 h1.2.2.2.2.1.2 h1.2.2.2.2.1.1 g1 y0 (by rw [y3]; exact rNm_s hnm e20)) (fun tk I2 L2 hq => ?_)
  obtain ⟨rfl, rfl, hN2, g2⟩ := hq
  have h2 := yPS_s h1 hN2.1
  obtain ⟨v2, w2⟩ := v19 _ _ _ _ _ h2
  have ix : ∀ J, yPS s I0 J c br th se → (6 * J 292 19 + J 304 s).toInt = 6 * s + se := by
    intro J hJ
    have a := e19 _ _ _ _ _ hJ
    have b := hJ.2.2.2.1
    have e6 : ((6 : Int32) * J 292 19).toInt = 6 * s := by rw [i_mul (by rw [show (6 : Int32).toInt = 6 from rfl]; omega) (by rw [show (6 : Int32).toInt = 6 from rfl]; omega), show (6 : Int32).toInt = 6 from rfl, a]
    rw [i_add (by omega) (by omega), e6]
    omega
  refine w_X9_tellOne_209 hR v2 (uBounded (d := d + 1) hR h2.2.1.1 g2) (fun y' I3 L3 hq => ?_)
  obtain ⟨rfl, hN3, g3, gv3⟩ := hq
  have h3 := yPS_s h2 hN3.1
  rw [w2]
  have i2 := ix _ h2
  have h4 := yPS_w (k := 305) (i := (6 * I2 292 19 + I2 304 s).toNatClampNeg) (x := y') (by omega) h3
  obtain ⟨v4, w4⟩ := v19 _ _ _ _ _ h4
  refine w_X9_tellOne_238 hR (vin (by omega) (by omega)) v4 (uBounded (d := d + 1) hR h4.2.1.1 (rG_c (by omega) g3)) (fun y2 I5 L5 hq => ?_)
  obtain ⟨rfl, hN5, g5, gv5⟩ := hq
  rw [w4]
  have i4 := ix _ h4
  have h5 := yPS_s h4 hN5.1
  have h6 := yPS_w (k := 306) (i := (6 * (qUp I3 305 (6 * I2 292 19 + I2 304 s).toNatClampNeg y') 292 19 + (qUp I3 305 (6 * I2 292 19 + I2 304 s).toNatClampNeg y') 304 s).toNatClampNeg) (x := y2) (by omega) h5
  have g6 : rG T K S N _ L5 (zStand K S N false y) := rG_z (rG_c (k := 306) (i := (6 * (qUp I3 305 (6 * I2 292 19 + I2 304 s).toNatClampNeg y') 292 19 + (qUp I3 305 (6 * I2 292 19 + I2 304 s).toNatClampNeg y') 304 s).toNatClampNeg) (x := y2) (by omega) g5) zStand_false.1 zStand_false.2
  refine w_X9_tellOne_268 (vin (by omega) (by omega)) (rEnds (d := d) hR h6.2.1.1 (yOk_t h1.2.1.1) (fun x => ?_) g6) (fun I7 L7 hq => ?_)
  · have a := (h6.2.2.2.2.2 x).1
    have b := h6.2.2.2.1
    exact vin (by omega) (by omega)
  obtain ⟨g7, hq⟩ := hq
  have fr6 : uFr s I (qUp I5 306 (6 * (qUp I3 305 (6 * I2 292 19 + I2 304 s).toNatClampNeg y') 292 19 + (qUp I3 305 (6 * I2 292 19 + I2 304 s).toNatClampNeg y') 304 s).toNatClampNeg y2) := uFr_tr (uFr_o (fun k a b => hN1.1.1.1 k (by omega))) (uFr_tr (uFr_o (fun k a b => hN2.1.1.1 k (by omega))) (uFr_tr (uFr_o (fun k a b => hN3.1.1.1 k (by omega))) (uFr_tr (uFr_up (k := 305) (i := (6 * I2 292 19 + I2 304 s).toNatClampNeg) (x := y') (fun _ => by rw [tcn, i2]; omega) (by omega)) (uFr_tr (uFr_o (fun k a b => hN5.1.1.1 k (by omega))) (uFr_up (fun _ => by rw [tcn, i4]; omega) (by omega))))))
  rcases hq with ⟨q1, q2, rfl⟩ | ⟨q1, ⟨J, q2, q3, q4⟩, qL⟩
  · exact w_X9_tellOne_274 (fun _ => w_X9_tellOne_427 ⟨rfl, rfl, rfl, ⟨c, br, th, se, ⟨yPS_s h6 q2, g7, hL0, fun x => absurd (g7.2.1.trans x) q1⟩, fun x => absurd x q1⟩, fun x => absurd (g7.2.1.trans x) q1, uFr_tr fr6 (uFr_o (fun k a b => q2.1.1 k (by omega)))⟩) (fun x => absurd x q1)
  · have hJ := yPS_s h6 q2.1
    refine w_X9_tellOne_274 (fun x => absurd q1 x) (fun _ => ?_)
    have o7 : ∀ k, k ≠ 292 → I7 k = J k := fun k a => by rw [q4]; exact funext fun i => qUp_ne (fun q => a q.1)
    have f7 : ∀ j, j ≠ 20 → I7 292 j = J 292 j := fun j a => by rw [q4]; exact qUp_ne (fun q => a q.2)
    have e7 : (I7 292 19).toInt = s := by rw [f7 19 (by decide)]; exact e19 _ _ _ _ _ hJ
    have v7 : vp_in (I7 292 19) 2 := vin (by omega) (by omega)
    have w7 : (I7 292 19).toNatClampNeg = s := by rw [tcn]; omega
    have m0 : pf (zMust K S 59 (zStand K S N false y)) = 0 := by rw [← g7.2.1]; exact q1
    have m1 : pf (zStand K S N false y) = 0 := zMust_0 m0
    obtain ⟨-, yk, ym⟩ := zName_0 (zStand_0 m1)
    have mc := (zStand_c m1).2
    have e20z : (I7 292 20).toInt = (I 292 20).toInt + 1 := by
      rw [q4, qUp_at, if_pos ⟨rfl, rfl⟩, i_s (by have := h6.2.2.2.2.1; omega)]
      rw [qUp_ne (by omega), hN5.1.1.2 20 (by decide) (by decide) (by decide) (by decide) (by decide), qUp_ne (by omega), hN3.1.1.2 20 (by decide) (by decide) (by decide) (by decide) (by decide), hN2.1.1.2 20 (by decide) (by decide) (by decide) (by decide) (by decide), e20]
    have tkv : (I1 292 11).toNatClampNeg = pt y := (rAt g1.w y0).1
    have nv : L5 298 (I1 292 11).toNatClampNeg = N (pt y) := by rw [tkv]; exact (g1.1.2.1 _ (rAt g1.w y0).2.1).2.2.2.2 yk
    refine w_X9_tellOne_281 hR v7 v7 (w_X9_tellOne_427 ⟨rfl, rfl, rfl, ⟨c, br, th, (se + 1), ⟨?_, ?_, ?_, fun _ => ⟨⟨?_, ?_⟩, ?_⟩⟩, fun _ => ?_⟩, fun _ => ?_, ?_⟩)
    rotate_right
    · exact uFr_tr fr6 (uFr_tr (uFr_o (fun k a b => q2.1.1.1 k (by omega))) (uFr_tr (uFr_o (fun k a b => o7 k (by omega))) (uFr_up (by omega) (by omega))))
    rotate_right
    · rw [w7]
      have y4 : pt y ≤ 400 := by have := (g1.2.2.2 y0).1.2; have := g1.1.1.2.1; omega
      have p1 : pf (zInt K S N 0 999 (zInt K S N 0 19 (zName K S N y))) = 0 := by
        have e := (zStand_false (K := K) (S := S) (N := N) (z := y)).1
        have m1' : (zStand K S N false y).1.2.1 = 0 := m1
        rw [e] at m1'
        exact m1'
      have p2 := zInt_0 p1
      have n3 := zName_pt (K := K) (S := S) (N := N) (fun _ => y4) (zInt_0 p2)
      have g24 : pt (zName K S N y) ≤ 400 := by have := (g2.2.2.2 (zInt_0 p2)).1.2; have := g2.1.1.2.1; omega
      have n4 := zInt_pt (K := K) (S := S) (N := N) (fun _ => g24) p2
      have ex := gv3 p2
      have ev := gv5 p1
      rw [n3, y1 y0] at ex
      rw [n4, n3, y1 y0] at ev
      have t2 : (6 * I2 292 19 + I2 304 s).toNatClampNeg = 6 * s + se := by rw [tcn, i2]; omega
      have t4 : (6 * (qUp I3 305 (6 * I2 292 19 + I2 304 s).toNatClampNeg y') 292 19 + (qUp I3 305 (6 * I2 292 19 + I2 304 s).toNatClampNeg y') 304 s).toNatClampNeg = 6 * s + se := by rw [tcn, i4]; omega
      have oJ : ∀ k, k ≠ 292 → J k = (qUp I5 306 (6 * (qUp I3 305 (6 * I2 292 19 + I2 304 s).toNatClampNeg y') 292 19 + (qUp I3 305 (6 * I2 292 19 + I2 304 s).toNatClampNeg y') 304 s).toNatClampNeg y2) k := fun k a => q2.1.1.1 k a
      have o5 : ∀ k, k ≠ 292 → I5 k = (qUp I3 305 (6 * I2 292 19 + I2 304 s).toNatClampNeg y') k := fun k a => hN5.1.1.1 k a
      have o3 : ∀ k, k ≠ 292 → I3 k = I k := fun k a => by rw [hN3.1.1.1 k a, hN2.1.1.1 k a, hN1.1.1.1 k a]
      have oF : ∀ k, k ≠ 292 → k ≠ 304 → k ≠ 305 → k ≠ 306 → (qUp I7 304 s (I7 304 s + 1)) k = I k := fun k a b c' d' => by
        rw [show (qUp I7 304 s (I7 304 s + 1)) k = I7 k from funext fun i => qUp_ne (fun q => b q.1), o7 k a, oJ k a, show (qUp I5 306 (6 * (qUp I3 305 (6 * I2 292 19 + I2 304 s).toNatClampNeg y') 292 19 + (qUp I3 305 (6 * I2 292 19 + I2 304 s).toNatClampNeg y') 304 s).toNatClampNeg y2) k = I5 k from funext fun i => qUp_ne (fun q => d' q.1), o5 k a, show (qUp I3 305 (6 * I2 292 19 + I2 304 s).toNatClampNeg y') k = I3 k from funext fun i => qUp_ne (fun q => c' q.1), o3 k a]
      have fk : ∀ j, (j = 34 ∨ j = 40) → (qUp I7 304 s (I7 304 s + 1)) 292 j = I 292 j := fun j hj => by
        rw [qUp_ne (by omega), f7 j (by omega), q2.1.1.2 j (by omega) (by omega) (by omega) (by omega) (by omega), qUp_ne (by omega), hN5.1.1.2 j (by omega) (by omega) (by omega) (by omega) (by omega), qUp_ne (by omega), hN3.1.1.2 j (by omega) (by omega) (by omega) (by omega) (by omega), hN2.1.1.2 j (by omega) (by omega) (by omega) (by omega) (by omega), hN1.1.1.2 j (by omega) (by omega) (by omega) (by omega) (by omega)]
      have nI : (I 304 s).toInt = se := by have := h.2.2.2.1; omega
      have e7C : I7 304 s = I 304 s := by rw [o7 304 (by decide), oJ 304 (by decide), qUp_ne (by omega), o5 304 (by decide), qUp_ne (by omega), o3 304 (by decide)]
      refine rDt_seat (n := se) hA (fk 34 (by omega)) (fk 40 (by omega)) (fun k a b c1 c2 c3 => oF k (by omega) c1 c2 c3) nI hlt ?_ (fun i => ?_) (fun i => ?_)
      · rw [qUp_at, if_pos ⟨rfl, rfl⟩, e7C, i_s (by omega), nI]
      · rw [qUp_ne (by omega), o7 305 (by decide), oJ 305 (by decide), qUp_ne (by omega), o5 305 (by decide), qUp_at, t2, o3 305 (by decide), ex]
        by_cases hi : i = 6 * s + se
        · rw [if_pos ⟨rfl, hi⟩, if_pos hi]
        · rw [if_neg (fun q => hi q.2), if_neg hi]
      · rw [qUp_ne (by omega), o7 306 (by decide), oJ 306 (by decide), qUp_at, t4, o5 306 (by decide), qUp_ne (by omega), o3 306 (by decide), ev]
        by_cases hi : i = 6 * s + se
        · rw [if_pos ⟨rfl, hi⟩, if_pos hi]
        · rw [if_neg (fun q => hi q.2), if_neg hi]
    · rw [w7]
      have hCt : (J 304 s).toInt = se := by have := hJ.2.2.2.1; omega
      have fz : ∀ j, (qUp I7 304 s (I7 304 s + 1)) 292 j = I7 292 j := fun j => qUp_ne (by omega)
      have oz : ∀ k, k ≠ 292 → k ≠ 304 → (qUp I7 304 s (I7 304 s + 1)) k = J k := fun k a b => (funext fun i => qUp_ne (fun q => b q.1)).trans (o7 k a)
      have eC : ((qUp I7 304 s (I7 304 s + 1)) 304 s).toInt = se + 1 := by rw [qUp_at, if_pos ⟨rfl, rfl⟩, o7 304 (by decide), i_s (by omega), hCt]
      obtain ⟨j1, j2, j3, j4, j5, j6⟩ := hJ
      obtain ⟨x1, x2, x3, x4⟩ := j6 q3
      have e20 : (I7 292 20).toInt = th + se + 1 := by
        rw [q4, qUp_at, if_pos ⟨rfl, rfl⟩, i_s (by have := h6.2.2.2.2.1; omega)]
        have := (h6.2.2.2.2.2 (yS_f0 q2.1 q3)).1
        omega
      refine ⟨yF_tr j1 (yF_tr (by rw [q4]; exact yF_up (by omega)) (yF_up (by omega))), yCS_of j2 (fun j hj => by rw [fz, f7 j (by omega)]), by rw [fz, f7 34 (by decide)]; exact j3, ?_, by rw [fz]; omega, fun _ => ⟨by rw [fz, e20]; omega, by rw [fz, f7 11 (by decide)]; exact x2, fun b b1 b2 => ?_, fun k hk => by rw [oz 311 (by decide) (by decide), oz 312 (by decide) (by decide)]; exact x4 k hk⟩⟩
      · rw [eC, oz 301 (by decide) (by decide)]
        omega
      · exact yB_congr (Nat.le_refl _) (fun i _ => ⟨by rw [oz 318 (by decide) (by decide)], by rw [oz 319 (by decide) (by decide)]⟩) ⟨by rw [oz 313 (by decide) (by decide)], by rw [oz 314 (by decide) (by decide)], by rw [oz 315 (by decide) (by decide)], by rw [oz 316 (by decide) (by decide)], by rw [oz 317 (by decide) (by decide)]⟩ (x3 b b1 b2)
    · exact rG_c (by omega) g7
    · intro k hk
      rw [qL]
      exact (funext fun i => by rw [qUpL_at, if_neg (fun x => hk x.1)]).trans (hL0 k hk)
    · show th = (zMust K S 59 (zStand K S N false y)).2.2.2.1
      rw [zMust_2, mc, y3, zt]
      rfl
    · show (se + 1) = (zMust K S 59 (zStand K S N false y)).2.2.2.2
      rw [zMust_2, mc, y3, zs]
      rfl
    · intro x
      rw [zMust_2, zStand_1.2.2, ym, y3, hnm x, qUp_ne (by omega), e20z, qL]
      have e20n : ((qUp I5 306 (6 * (qUp I3 305 (6 * I2 292 19 + I2 304 s).toNatClampNeg y') 292 19 + (qUp I3 305 (6 * I2 292 19 + I2 304 s).toNatClampNeg y') 304 s).toNatClampNeg y2) 292 20) = I 292 20 := by
        rw [qUp_ne (by omega), hN5.1.1.2 20 (by decide) (by decide) (by decide) (by decide) (by decide), qUp_ne (by omega), hN3.1.1.2 20 (by decide) (by decide) (by decide) (by decide) (by decide), hN2.1.1.2 20 (by decide) (by decide) (by decide) (by decide) (by decide), e20]
      rw [e20n, nv]
      have n0 := h.2.2.2.2.1.1
      constructor
      · rintro (q | ⟨k, k1, k2⟩)
        · exact ⟨(I 292 20).toNatClampNeg, by rw [tcn]; omega, by rw [qUpL_at, if_pos ⟨rfl, rfl⟩]; exact q.symm⟩
        · exact ⟨k, by omega, by rw [qUpL_at, if_neg (fun x => by have := x.2; rw [tcn] at this; omega)]; exact k2⟩
      · rintro ⟨k, k1, k2⟩
        rw [qUpL_at] at k2
        by_cases q : k = (I 292 20).toNatClampNeg
        · rw [if_pos ⟨rfl, q⟩] at k2; exact Or.inl k2.symm
        · rw [if_neg (fun x => q x.2)] at k2
          exact Or.inr ⟨k, by rw [tcn] at q; omega, k2⟩
    · rw [qUp_ne (by omega), f7 11 (by decide)]
      have t1 := hN1.2 g1'
      have t2 := hN2.1.2.2.1
      have t3 := hN3.1.2.2.1
      have t5 := hN5.1.2.2.1
      have t7 := q2.1.2.2.1
      rw [qUp_ne (by omega)] at t5 t7
      omega
end
end
