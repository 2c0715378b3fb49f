/-! ===== the reference's laws as they are told ===== -/
theorem zrpn_congr {cd ci cd' ci' : Nat → Int32} : ∀ {n c top : Nat}, (∀ i, c ≤ i → i < c + n → cd' i = cd i ∧ ci' i = ci i) → zrpn cd ci n c top → zrpn cd' ci' n c top
  | 0, _, _, _, _ => trivial
  | n + 1, c, top, h, q => by
    unfold zrpn at q ⊢
    obtain ⟨e1, e2⟩ := h c (Nat.le_refl _) (by omega)
    rw [e1, e2]
    by_cases hc : cd c < 2
    · rw [if_pos hc] at q ⊢
      exact ⟨q.1, zrpn_congr (fun i a b => h i (by omega) (by omega)) q.2⟩
    · rw [if_neg hc] at q ⊢
      exact ⟨q.1, q.2.1, zrpn_congr (fun i a b => h i (by omega) (by omega)) q.2.2⟩
theorem zseg_congr {I I' : qMI} {f t : Int32} {C : Nat} (ht : t.toInt ≤ C) (h : ∀ i, i < C → I' 318 i = I 318 i ∧ I' 319 i = I 319 i) (q : zseg I f t) : zseg I' f t := by
  intro hlt
  obtain ⟨⟨h1, h2⟩, h3⟩ := q hlt
  have h1' := i_le.mp h1
  rw [show (0 : Int32).toInt = 0 from rfl] at h1'
  have hlt' := i_lt.mp hlt
  exact ⟨⟨h1, h2⟩, zrpn_congr (fun i a b => h i (by omega)) h3⟩
/-- a branch that is good, all of it from sb on and below C -/
def yB (sb : Nat) (I : qMI) (b C : Nat) : Prop := (I 313 b ≠ 0 → (zseg I (I 314 b) (I 315 b) ∧ (sb : Int) ≤ (I 314 b).toInt ∧ (I 315 b).toInt ≤ C) ∧ zseg I (I 315 b) (I 316 b) ∧ (sb : Int) ≤ (I 315 b).toInt ∧ (I 316 b).toInt ≤ C) ∧ zseg I (I 316 b) (I 317 b) ∧ (sb : Int) ≤ (I 316 b).toInt ∧ (I 317 b).toInt ≤ C
theorem yB_bra {sb : Nat} {I : qMI} {b C : Nat} (h : yB sb I b C) : zbra I b := ⟨fun q => ⟨(h.1 q).1.1, (h.1 q).2.1⟩, h.2.1⟩
theorem yB_congr {sb : Nat} {I I' : qMI} {b C C' : Nat} (hC : C ≤ C') (h : ∀ i, i < C → I' 318 i = I 318 i ∧ I' 319 i = I 319 i) (e : I' 313 b = I 313 b ∧ I' 314 b = I 314 b ∧ I' 315 b = I 315 b ∧ I' 316 b = I 316 b ∧ I' 317 b = I 317 b) (q : yB sb I b C) : yB sb I' b C' := by
  obtain ⟨e3, e4, e5, e6, e7⟩ := e
  obtain ⟨q1, q2, q4, q3⟩ := q
  unfold yB
  rw [e3, e4, e5, e6, e7]
  exact ⟨fun z => ⟨⟨zseg_congr (q1 z).1.2.2 h (q1 z).1.1, (q1 z).1.2.1, by have := (q1 z).1.2.2; omega⟩, zseg_congr (q1 z).2.2.2 h (q1 z).2.1, (q1 z).2.2.1, by have := (q1 z).2.2.2; omega⟩, zseg_congr q3 h q2, q4, by omega⟩
/-- what a law may change, from b0 and c0 on -/
def yL (sb bb c0 b0 : Nat) (I0 I : qMI) : Prop := (∀ k, k ≠ 292 → (k < 313 ∨ 320 < k) → I k = I0 k) ∧ (∀ i, (i < b0 ∨ bb + 130 ≤ i) → I 313 i = I0 313 i ∧ I 314 i = I0 314 i ∧ I 315 i = I0 315 i ∧ I 316 i = I0 316 i ∧ I 317 i = I0 317 i) ∧ (∀ i, (i < c0 ∨ sb + 420 ≤ i) → I 318 i = I0 318 i ∧ I 319 i = I0 319 i) ∧ (∀ j, j ≠ 11 → j ≠ 12 → j ≠ 13 → j ≠ 14 → j ≠ 15 → j ≠ 16 → j ≠ 34 → j ≠ 40 → j ≠ 44 → I 292 j = I0 292 j)
theorem yL_rf (sb bb c0 b0 : Nat) (I : qMI) : yL sb bb c0 b0 I I := ⟨fun _ _ _ => rfl, fun _ _ => ⟨rfl, rfl, rfl, rfl, rfl⟩, fun _ _ => ⟨rfl, rfl⟩, fun _ _ _ _ _ _ _ _ _ _ => rfl⟩
theorem yL_tr {sb bb c0 b0 c1 b1 : Nat} {I J K : qMI} (hc : c0 ≤ c1) (hb : b0 ≤ b1) (h : yL sb bb c0 b0 I J) (g : yL sb bb c1 b1 J K) : yL sb bb c0 b0 I K := by
  refine ⟨fun k a b => (g.1 k a b).trans (h.1 k a b), fun i a => ?_, fun i a => ?_, fun j a1 a2 a3 a4 a5 a6 a7 a8 a9 => (g.2.2.2 j a1 a2 a3 a4 a5 a6 a7 a8 a9).trans (h.2.2.2 j a1 a2 a3 a4 a5 a6 a7 a8 a9)⟩
  · obtain ⟨x1, x2, x3, x4, x5⟩ := g.2.1 i (by omega)
    obtain ⟨y1, y2, y3, y4, y5⟩ := h.2.1 i a
    exact ⟨x1.trans y1, x2.trans y2, x3.trans y3, x4.trans y4, x5.trans y5⟩
  · obtain ⟨x1, x2⟩ := g.2.2.1 i (by omega)
    obtain ⟨y1, y2⟩ := h.2.2.1 i a
    exact ⟨x1.trans y1, x2.trans y2⟩
theorem yL_e {sb bb c0 b0 : Nat} {I J : qMI} (h : yE sb c0 I J) : yL sb bb c0 b0 I J := ⟨fun k a b => h.1 k a (by omega) (by omega) (by omega), fun i _ => ⟨by rw [h.1 313 (by decide) (by decide) (by decide) (by decide)], by rw [h.1 314 (by decide) (by decide) (by decide) (by decide)], by rw [h.1 315 (by decide) (by decide) (by decide) (by decide)], by rw [h.1 316 (by decide) (by decide) (by decide) (by decide)], by rw [h.1 317 (by decide) (by decide) (by decide) (by decide)]⟩, h.2.1, fun j a1 a2 a3 a4 a5 a6 _ a8 a9 => h.2.2 j a1 a2 a3 a4 a5 a6 a8 a9⟩
theorem yL_t {sb bb c0 b0 : Nat} {I J : qMI} (h : yT I J) : yL sb bb c0 b0 I J := yL_e (yE_t h)
theorem yL_b {sb bb c0 b0 k b : Nat} {I : qMI} {x : Int32} (hk : 313 ≤ k ∧ k ≤ 317) (hb : b0 ≤ b ∧ b < bb + 130) : yL sb bb c0 b0 I (qUp I k b x) := ⟨fun a _ c => funext fun i => qUp_ne (fun q => by omega), fun i hi => ⟨qUp_ne (fun q => by omega), qUp_ne (fun q => by omega), qUp_ne (fun q => by omega), qUp_ne (fun q => by omega), qUp_ne (fun q => by omega)⟩, fun i _ => ⟨qUp_ne (fun q => by omega), qUp_ne (fun q => by omega)⟩, fun j _ _ _ _ _ _ _ _ _ => qUp_ne (fun q => by omega)⟩
theorem yL_34 {sb bb c0 b0 : Nat} {I : qMI} {x : Int32} : yL sb bb c0 b0 I (qUp I 292 34 x) := ⟨fun a b _ => funext fun i => qUp_ne (fun q => b q.1), fun i hi => ⟨qUp_ne (fun q => by omega), qUp_ne (fun q => by omega), qUp_ne (fun q => by omega), qUp_ne (fun q => by omega), qUp_ne (fun q => by omega)⟩, fun i _ => ⟨qUp_ne (fun q => by omega), qUp_ne (fun q => by omega)⟩, fun j _ _ _ _ _ _ a _ _ => qUp_ne (fun q => a q.2)⟩
/-- the state of the code: c emitted so far, nothing open while there is no fault -/
def yCS (sb c : Nat) (I : qMI) : Prop := yOk I ∧ (0 ≤ (I 292 12).toInt ∧ (I 292 12).toInt ≤ 7 ∧ (I 292 13 = 0 → (I 292 12).toInt = 0)) ∧ ((I 292 40).toInt = (sb + c : Nat) ∧ c ≤ 402 ∧ (I 292 13 = 0 → (c : Int) ≤ (I 292 11).toInt))
theorem yCS_s {sb c : Nat} {I J : qMI} (h : yCS sb c I) (g : yS I J) : yCS sb c J := by
  obtain ⟨h1, ⟨h2, h3, h4⟩, ⟨h5, h6, h7⟩⟩ := h
  have e12 := g.1.2 12 (by decide) (by decide) (by decide) (by decide) (by decide)
  have e40 := g.1.2 40 (by decide) (by decide) (by decide) (by decide) (by decide)
  unfold yCS
  rw [e12, e40]
  exact ⟨g.2.1, ⟨h2, h3, fun q => h4 (yS_f0 g q)⟩, ⟨h5, h6, fun q => Int.le_trans (h7 (yS_f0 g q)) g.2.2.1⟩⟩
/-- it doesn't hang on other cells and fields -/
theorem yCS_of {sb c : Nat} {I J : qMI} (h : yCS sb c I) (e : ∀ j, (j = 11 ∨ j = 12 ∨ j = 13 ∨ j = 40) → J 292 j = I 292 j) : yCS sb c J := by
  unfold yCS yOk at h ⊢
  rw [e 11 (by omega), e 12 (by omega), e 13 (by omega), e 40 (by omega)]
  exact h
/-- on: the token no less, a fault stays -/
def yM (I J : qMI) : Prop := (I 292 11).toInt ≤ (J 292 11).toInt ∧ (I 292 13 ≠ 0 → J 292 13 ≠ 0)
theorem yM_rf (I : qMI) : yM I I := ⟨Int.le_refl _, id⟩
theorem yM_tr {I J K : qMI} (h : yM I J) (g : yM J K) : yM I K := ⟨Int.le_trans h.1 g.1, fun q => g.2 (h.2 q)⟩
theorem yM_s {I J : qMI} (h : yS I J) : yM I J := ⟨h.2.2.1, h.2.2.2⟩
theorem yM_of {I J : qMI} (e1 : J 292 11 = I 292 11) (e2 : J 292 13 = I 292 13) : yM I J := ⟨by rw [e1]; exact Int.le_refl _, by rw [e2]; exact id⟩
theorem yM_f0 {I J : qMI} (h : yM I J) (q : J 292 13 = 0) : I 292 13 = 0 := Decidable.byContradiction fun n => h.2 n q
section
variable {l : Launch} {G : qG} {d : Nat} {I : qMI} {L : qML} {R : qMR} {sb bb : Nat}
theorem yExprC (hR : wkR R) (hsb : sb = 0 ∨ sb = 420) {c : Nat} (h : yCS sb c I) : wkV l G (d + 4) n_X9_expression [.ref 292] I L R (fun I' L' => L' = L ∧ yE sb (sb + c) I I' ∧ yM I I' ∧ ∃ c', c ≤ c' ∧ yCS sb c' I' ∧ (I' 292 13 = 0 → (I 292 11).toInt + 1 ≤ (I' 292 11).toInt ∧ zseg I' (I 292 40) (I' 292 40))) := by
  obtain ⟨h1, ⟨h2, h3, h4⟩, ⟨h5, h6, h7⟩⟩ := h
  refine wkV.mono (yExpr (d := d) (base := (I 292 12).toInt.toNat) (c0 := sb + c) hR hsb h1 (by omega) (by omega) (fun q => by have := h4 q; omega) h5 (fun q => by have := h7 q; omega) (by omega)) ?_
  intro I' L' hq
  obtain ⟨rfl, ws, n, fl, hx, hf⟩ := hq
  obtain ⟨x1, x2, ⟨x3, x4, x5⟩, ⟨x6, x7, x8⟩, ⟨x9, x10, x11⟩, x12, x13, x14⟩ := hx
  refine ⟨rfl, x1, ⟨x13, x14⟩, c + n, by omega, ⟨x2, ⟨by omega, by omega, fun q => ?_⟩, ⟨by rw [x9]; omega, by omega, fun q => ?_⟩⟩, fun q => ⟨by have := (hf q).2.2; omega, fun hlt => ⟨⟨i_le.mpr (by rw [h5, show (0 : Int32).toInt = 0 from rfl]; omega), by omega⟩, ?_⟩⟩⟩
  · obtain ⟨w1, -, -⟩ := hf q
    have w2 := h4 (Decidable.byContradiction fun z => x14 z q)
    subst w1
    have : yOpn [] = 0 := rfl
    omega
  · have := x10 q
    omega
  · have hr := yR_rpn (x12 q)
    rw [x9, h5]
    rw [show (((sb + c + n : Nat) : Int) - ((sb + c : Nat) : Int)).toNat = n by omega, Int.toNat_natCast]
    exact hr
/-- a term: branch br, its row ends where the code then ends -/
theorem yTerm (hR : wkR R) (hsb : sb = 0 ∨ sb = 420) {c br : Nat} (h : yCS sb c I) (hb : (I 292 34).toInt = br) (hbb : bb ≤ br ∧ br < bb + 130 ∧ bb ≤ 130) : wkV l G (d + 5) n_X9_term [.ref 292] I L R (fun I' L' => L' = L ∧ yL sb bb (sb + c) br I I' ∧ yM I I' ∧ (I' 292 34).toInt = br + 1 ∧ (I' 313 br = I 313 br ∧ I' 314 br = I 314 br ∧ I' 315 br = I 315 br ∧ I' 316 br = I 292 40 ∧ I' 317 br = I' 292 40) ∧ ∃ c', c ≤ c' ∧ yCS sb c' I' ∧ (I' 292 13 = 0 → (I 292 11).toInt + 1 ≤ (I' 292 11).toInt ∧ zseg I' (I' 316 br) (I' 317 br))) := by
  have hin : vp_in (I 292 34) 260 := vin (by omega) (by omega)
  have eb : (I 292 34).toNatClampNeg = br := by rw [tcn]; omega
  have f1 : ∀ j, (qUp I 316 br (I 292 40)) 292 j = I 292 j := fun j => qUp_ne (by omega)
  have h' := yCS_of (J := qUp I 316 br (I 292 40)) h (fun j _ => f1 j)
  -- from 24 on
  have fin : ∀ (I2 : qMI) (c2 : Nat), yE sb (sb + c) (qUp I 316 br (I 292 40)) I2 → yM I I2 → c ≤ c2 → yCS sb c2 I2 → (I2 292 13 = 0 → (I 292 11).toInt + 1 ≤ (I2 292 11).toInt ∧ zseg I2 (I 292 40) (I2 292 40)) → wkB l G (d + 4 + 1) n_X9_term (wkPV R (fun I' L' => L' = L ∧ yL sb bb (sb + c) br I I' ∧ yM I I' ∧ (I' 292 34).toInt = br + 1 ∧ (I' 313 br = I 313 br ∧ I' 314 br = I 314 br ∧ I' 315 br = I 315 br ∧ I' 316 br = I 292 40 ∧ I' 317 br = I' 292 40) ∧ ∃ c', c ≤ c' ∧ yCS sb c' I' ∧ (I' 292 13 = 0 → (I 292 11).toInt + 1 ≤ (I' 292 11).toInt ∧ zseg I' (I' 316 br) (I' 317 br)))) 24 [.ref 292] [] I2 L R := by
    intro I2 c2 hE hM hcc hC hz
    have e34 : I2 292 34 = I 292 34 := (hE.2.2 34 (by decide) (by decide) (by decide) (by decide) (by decide) (by decide) (by decide) (by decide)).trans (f1 34)
    refine w_X9_term_24 hR (by rw [e34]; exact hin) ⟨rfl, rfl, rfl, rfl, ?_⟩
    rw [show (qUp I2 317 (I2 292 34).toNatClampNeg (I2 292 40)) 292 34 = I2 292 34 from qUp_ne (by omega), e34, eb]
    have f2 : ∀ j, j ≠ 34 → (qUp (qUp I2 317 br (I2 292 40)) 292 34 (I 292 34 + 1)) 292 j = I2 292 j := fun j a => by rw [qUp_ne (fun q => a q.2), qUp_ne (by omega)]
    have o2 : ∀ k i, k ≠ 292 → ¬ (k = 317 ∧ i = br) → (qUp (qUp I2 317 br (I2 292 40)) 292 34 (I 292 34 + 1)) k i = I2 k i := fun k i a b => by rw [qUp_ne (fun q => a q.1), qUp_ne b]
    have o1 : ∀ k i, k ≠ 292 → k ≠ 318 → k ≠ 319 → k ≠ 320 → ¬ (k = 316 ∧ i = br) → I2 k i = I k i := fun k i a b c d e => by rw [hE.1 k a b c d, qUp_ne e]
    have e316 : I2 316 br = I 292 40 := by rw [hE.1 316 (by decide) (by decide) (by decide) (by decide), qUp_at, if_pos ⟨rfl, rfl⟩]
    have e317 : (qUp (qUp I2 317 br (I2 292 40)) 292 34 (I 292 34 + 1)) 317 br = I2 292 40 := by rw [qUp_ne (by omega), qUp_at, if_pos ⟨rfl, rfl⟩]
    refine ⟨yL_tr (Nat.le_refl _) (Nat.le_refl _) (yL_b (k := 316) (by omega) (by omega)) (yL_tr (Nat.le_refl _) (Nat.le_refl _) (yL_e hE) (yL_tr (Nat.le_refl _) (Nat.le_refl _) (yL_b (k := 317) (by omega) (by omega)) yL_34)), yM_tr hM (yM_of (f2 11 (by decide)) (f2 13 (by decide))), ?_, ⟨?_, ?_, ?_, ?_, ?_⟩, c2, hcc, yCS_of hC (fun j hj => f2 j (by omega)), fun q => ?_⟩
    · rw [qUp_at, if_pos ⟨rfl, rfl⟩, i_s (by omega), hb]
    · rw [o2 _ _ (by decide) (by omega), o1 _ _ (by decide) (by decide) (by decide) (by decide) (by omega)]
    · rw [o2 _ _ (by decide) (by omega), o1 _ _ (by decide) (by decide) (by decide) (by decide) (by omega)]
    · rw [o2 _ _ (by decide) (by omega), o1 _ _ (by decide) (by decide) (by decide) (by decide) (by omega)]
    · rw [o2 _ _ (by decide) (by omega), e316]
    · rw [e317, f2 40 (by decide)]
    · rw [f2 13 (by decide)] at q
      obtain ⟨z1, z2⟩ := hz q
      rw [f2 11 (by decide), e317, o2 316 br (by decide) (by omega), e316]
      refine ⟨z1, fun hlt => ?_⟩
      obtain ⟨w1, w2⟩ := z2 hlt
      refine ⟨w1, zrpn_congr (fun i _ _ => ⟨o2 318 i (by decide) (by omega), o2 319 i (by decide) (by omega)⟩) w2⟩
  refine wkC_of 0 (by decide) (Nat.le_of_ble_eq_true rfl) (w_X9_term_0 hR hin ?_ ?_) <;> rw [eb, f1]
  · exact fun q => fin _ c (yE_rf _ _ _) (yM_of (f1 11) (f1 13)) (Nat.le_refl _) h' (fun z => absurd z (by rw [f1]; exact q))
  · refine fun q => w_X9_term_20 (yExprC (d := d) hR hsb h') (fun I2 L2 hq => ?_)
    obtain ⟨rfl, hE, hM, c2, hcc, hC, hz⟩ := hq
    refine fin I2 c2 hE (yM_tr (yM_of (f1 11) (f1 13)) hM) hcc hC (fun z => ?_)
    have := hz z
    rw [f1, f1] at this
    exact this
end
