/-! ===== the reference's laws as they are told ===== -/
theorem zrpn_congr {cd ci cd' ci' : Nat → Int32} : ∀ {n c top : Nat}, (∀ i, c ≤ i → i < c + n → cd' i = cd i ∧ ci' i = ci i) → zrpn cd ci n c top → zrpn cd' ci' n c top
  | 0, _, _, _, _ => trivial
  | n + 1, c, top, h, q => by
    unfold zrpn at q ⊢
    obtain ⟨e1, e2⟩ := h c (Nat.le_refl _) (by omega)
    rw [e1, e2]
    by_cases hc : cd c < 2
    · rw [if_pos hc] at q ⊢
      exact ⟨q.1, zrpn_congr (fun i a b => h i (by omega) (by omega)) q.2⟩
    · rw [if_neg hc] at q ⊢
      exact ⟨q.1, q.2.1, zrpn_congr (fun i a b => h i (by omega) (by omega)) q.2.2⟩
theorem zseg_congr {I I' : qMI} {f t : Int32} {C : Nat} (ht : t.toInt ≤ C) (h : ∀ i, i < C → I' 318 i = I 318 i ∧ I' 319 i = I 319 i) (q : zseg I f t) : zseg I' f t := by
  intro hlt
  obtain ⟨⟨h1, h2⟩, h3⟩ := q hlt
  have h1' := i_le.mp h1
  rw [show (0 : Int32).toInt = 0 from rfl] at h1'
  have hlt' := i_lt.mp hlt
  exact ⟨⟨h1, h2⟩, zrpn_congr (fun i a b => h i (by omega)) h3⟩
/-- a branch that is good, all of it from sb on and below C -/
def yB (sb : Nat) (I : qMI) (b C : Nat) : Prop := (I 313 b ≠ 0 → (zseg I (I 314 b) (I 315 b) ∧ (sb : Int) ≤ (I 314 b).toInt ∧ (I 315 b).toInt ≤ C) ∧ zseg I (I 315 b) (I 316 b) ∧ (sb : Int) ≤ (I 315 b).toInt ∧ (I 316 b).toInt ≤ C) ∧ zseg I (I 316 b) (I 317 b) ∧ (sb : Int) ≤ (I 316 b).toInt ∧ (I 317 b).toInt ≤ C
theorem yB_bra {sb : Nat} {I : qMI} {b C : Nat} (h : yB sb I b C) : zbra I b := ⟨fun q => ⟨(h.1 q).1.1, (h.1 q).2.1⟩, h.2.1⟩
theorem yB_congr {sb : Nat} {I I' : qMI} {b C C' : Nat} (hC : C ≤ C') (h : ∀ i, i < C → I' 318 i = I 318 i ∧ I' 319 i = I 319 i) (e : I' 313 b = I 313 b ∧ I' 314 b = I 314 b ∧ I' 315 b = I 315 b ∧ I' 316 b = I 316 b ∧ I' 317 b = I 317 b) (q : yB sb I b C) : yB sb I' b C' := by
  obtain ⟨e3, e4, e5, e6, e7⟩ := e
  obtain ⟨q1, q2, q4, q3⟩ := q
  unfold yB
  rw [e3, e4, e5, e6, e7]
  exact ⟨fun z => ⟨⟨zseg_congr (q1 z).1.2.2 h (q1 z).1.1, (q1 z).1.2.1, by have := (q1 z).1.2.2; omega⟩, zseg_congr (q1 z).2.2.2 h (q1 z).2.1, (q1 z).2.2.1, by have := (q1 z).2.2.2; omega⟩, zseg_congr q3 h q2, q4, by omega⟩
/-- what a law may change, from b0 and c0 on -/
def yL (sb bb c0 b0 : Nat) (I0 I : qMI) : Prop := (∀ k, k ≠ 292 → (k < 313 ∨ 320 < k) → I k = I0 k) ∧ (∀ i, (i < b0 ∨ bb + 130 ≤ i) → I 313 i = I0 313 i ∧ I 314 i = I0 314 i ∧ I 315 i = I0 315 i ∧ I 316 i = I0 316 i ∧ I 317 i = I0 317 i) ∧ (∀ i, (i < c0 ∨ sb + 420 ≤ i) → I 318 i = I0 318 i ∧ I 319 i = I0 319 i) ∧ (∀ j, j ≠ 11 → j ≠ 12 → j ≠ 13 → j ≠ 14 → j ≠ 15 → j ≠ 16 → j ≠ 34 → j ≠ 40 → j ≠ 44 → I 292 j = I0 292 j)
theorem yL_rf (sb bb c0 b0 : Nat) (I : qMI) : yL sb bb c0 b0 I I := ⟨fun _ _ _ => rfl, fun _ _ => ⟨rfl, rfl, rfl, rfl, rfl⟩, fun _ _ => ⟨rfl, rfl⟩, fun _ _ _ _ _ _ _ _ _ _ => rfl⟩
theorem yL_tr {sb bb c0 b0 c1 b1 : Nat} {I J K : qMI} (hc : c0 ≤ c1) (hb : b0 ≤ b1) (h : yL sb bb c0 b0 I J) (g : yL sb bb c1 b1 J K) : yL sb bb c0 b0 I K := by
  refine ⟨fun k a b => (g.1 k a b).trans (h.1 k a b), fun i a => ?_, fun i a => ?_, fun j a1 a2 a3 a4 a5 a6 a7 a8 a9 => (g.2.2.2 j a1 a2 a3 a4 a5 a6 a7 a8 a9).trans (h.2.2.2 j a1 a2 a3 a4 a5 a6 a7 a8 a9)⟩
  · obtain ⟨x1, x2, x3, x4, x5⟩ := g.2.1 i (by omega)
    obtain ⟨y1, y2, y3, y4, y5⟩ := h.2.1 i a
    exact ⟨x1.trans y1, x2.trans y2, x3.trans y3, x4.trans y4, x5.trans y5⟩
  · obtain ⟨x1, x2⟩ := g.2.2.1 i (by omega)
    obtain ⟨y1, y2⟩ := h.2.2.1 i a
    exact ⟨x1.trans y1, x2.trans y2⟩
theorem yL_e {sb bb c0 b0 : Nat} {I J : qMI} (h : yE sb c0 I J) : yL sb bb c0 b0 I J := ⟨fun k a b => h.1 k a (by omega) (by omega) (by omega), fun i _ => ⟨by rw [h.1 313 (by decide) (by decide) (by decide) (by decide)], by rw [h.1 314 (by decide) (by decide) (by decide) (by decide)], by rw [h.1 315 (by decide) (by decide) (by decide) (by decide)], by rw [h.1 316 (by decide) (by decide) (by decide) (by decide)], by rw [h.1 317 (by decide) (by decide) (by decide) (by decide)]⟩, h.2.1, fun j a1 a2 a3 a4 a5 a6 _ a8 a9 => h.2.2 j a1 a2 a3 a4 a5 a6 a8 a9⟩
theorem yL_t {sb bb c0 b0 : Nat} {I J : qMI} (h : yT I J) : yL sb bb c0 b0 I J := yL_e (yE_t h)
theorem yL_b {sb bb c0 b0 k b : Nat} {I : qMI} {x : Int32} (hk : 313 ≤ k ∧ k ≤ 317) (hb : b0 ≤ b ∧ b < bb + 130) : yL sb bb c0 b0 I (qUp I k b x) := ⟨fun a _ c => funext fun i => qUp_ne (fun q => by omega), fun i hi => ⟨qUp_ne (fun q => by omega), qUp_ne (fun q => by omega), qUp_ne (fun q => by omega), qUp_ne (fun q => by omega), qUp_ne (fun q => by omega)⟩, fun i _ => ⟨qUp_ne (fun q => by omega), qUp_ne (fun q => by omega)⟩, fun j _ _ _ _ _ _ _ _ _ => qUp_ne (fun q => by omega)⟩
theorem yL_34 {sb bb c0 b0 : Nat} {I : qMI} {x : Int32} : yL sb bb c0 b0 I (qUp I 292 34 x) := ⟨fun a b _ => funext fun i => qUp_ne (fun q => b q.1), fun i hi => ⟨qUp_ne (fun q => by omega), qUp_ne (fun q => by omega), qUp_ne (fun q => by omega), qUp_ne (fun q => by omega), qUp_ne (fun q => by omega)⟩, fun i _ => ⟨qUp_ne (fun q => by omega), qUp_ne (fun q => by omega)⟩, fun j _ _ _ _ _ _ a _ _ => qUp_ne (fun q => a q.2)⟩
/-- the state of the code: c emitted so far, nothing open while there is no fault -/
def yCS (sb c : Nat) (I : qMI) : Prop := yOk I ∧ (0 ≤ (I 292 12).toInt ∧ (I 292 12).toInt ≤ 7 ∧ (I 292 13 = 0 → (I 292 12).toInt = 0)) ∧ ((I 292 40).toInt = (sb + c : Nat) ∧ c ≤ 402 ∧ (I 292 13 = 0 → (c : Int) ≤ (I 292 11).toInt))
theorem yCS_s {sb c : Nat} {I J : qMI} (h : yCS sb c I) (g : yS I J) : yCS sb c J := by
  obtain ⟨h1, ⟨h2, h3, h4⟩, ⟨h5, h6, h7⟩⟩ := h
  have e12 := g.1.2 12 (by decide) (by decide) (by decide) (by decide) (by decide)
  have e40 := g.1.2 40 (by decide) (by decide) (by decide) (by decide) (by decide)
  unfold yCS
  rw [e12, e40]
  exact ⟨g.2.1, ⟨h2, h3, fun q => h4 (yS_f0 g q)⟩, ⟨h5, h6, fun q => Int.le_trans (h7 (yS_f0 g q)) g.2.2.1⟩⟩
/-- it doesn't hang on other cells and fields -/
theorem yCS_of {sb c : Nat} {I J : qMI} (h : yCS sb c I) (e : ∀ j, (j = 11 ∨ j = 12 ∨ j = 13 ∨ j = 40) → J 292 j = I 292 j) : yCS sb c J := by
  unfold yCS yOk at h ⊢
  rw [e 11 (by omega), e 12 (by omega), e 13 (by omega), e 40 (by omega)]
  exact h
/-- on: the token no less, a fault stays -/
def yM (I J : qMI) : Prop := (I 292 11).toInt ≤ (J 292 11).toInt ∧ (I 292 13 ≠ 0 → J 292 13 ≠ 0)
theorem yM_rf (I : qMI) : yM I I := ⟨Int.le_refl _, id⟩
theorem yM_tr {I J K : qMI} (h : yM I J) (g : yM J K) : yM I K := ⟨Int.le_trans h.1 g.1, fun q => g.2 (h.2 q)⟩
theorem yM_s {I J : qMI} (h : yS I J) : yM I J := ⟨h.2.2.1, h.2.2.2⟩
theorem yM_of {I J : qMI} (e1 : J 292 11 = I 292 11) (e2 : J 292 13 = I 292 13) : yM I J := ⟨by rw [e1]; exact Int.le_refl _, by rw [e2]; exact id⟩
theorem yM_f0 {I J : qMI} (h : yM I J) (q : J 292 13 = 0) : I 292 13 = 0 := Decidable.byContradiction fun n => h.2 n q
section
variable {l : Launch} {G : qG} {d : Nat} {I : qMI} {L : qML} {R : qMR} {sb bb : Nat}
end
