/-! ===== names and numbers that are told ===== -/
section
variable {l : Launch} {G : qG} {d : Nat} {I : qMI} {L : qML} {R : qMR}
theorem yTold (hR : wkR R) (hk : yOk I) {a b : Int32} : wkI l G (d + 4) n_X9_toldInt [.ref 292, .int a, .int b] I L R (fun _ I' L' => L' = L ∧ yS I I' ∧ (I' 292 13 = 0 → (I' 292 11).toInt = (I 292 11).toInt + 3)) := by
  refine wkC_of 1 (by decide) (Nat.le_of_ble_eq_true rfl) (w_X9_toldInt_0 (yGoes (d := d + 1) hR hk) (fun I1 L1 hq => ?_))
  obtain ⟨rfl, h1⟩ := hq
  refine w_X9_toldInt_4 (yBounded (d := d) hR h1.1.2.1) (fun y I2 L2 hq => ?_)
  obtain ⟨rfl, h2⟩ := hq
  refine w_X9_toldInt_10 (yMust (d := d) hR h2.1.2.1) (fun I3 L3 hq => ?_)
  obtain ⟨rfl, h3, -⟩ := hq
  refine w_X9_toldInt_16 ⟨rfl, rfl, _, rfl, rfl, yS_tr h1.1 (yS_tr h2.1 h3.1), fun q => ?_⟩
  have q2 := yS_f0 h3.1 q
  have q1 := yS_f0 h2.1 q2
  have := h3.2 q
  have := h2.2 q2
  have := h1.2 q1
  omega
theorem yNamedLoop (hR : wkR R) {tk : Int32} (htk : vp_in tk 403) (hn : (I 292 20).toInt ≤ 12) : ∀ (m : Nat) (J : qMI) (k : Int32), (12 - k.toInt).toNat = m → 0 ≤ k.toInt → k.toInt ≤ 12 → yN I J → wkB l G (d + 3 + 1) n_X9_named (wkPI R (fun y I' L' => L' = L ∧ y = tk ∧ yN I I')) 12 [.ref 292, .int tk, .int k] [] J L R := by
  intro m
  induction m with
  | zero =>
    intro J k hm h0 h12 hJ
    have e20 : J 292 20 = I 292 20 := hJ.1.1.2 20 (by decide) (by decide) (by decide) (by decide) (by decide)
    exact w_X9_named_12 (fun _ => w_X9_named_55 ⟨rfl, rfl, _, rfl, rfl, rfl, hJ⟩) (fun q => absurd (i_le.mpr (by rw [e20]; omega)) q)
  | succ m ih =>
    intro J k hm h0 h12 hJ
    have next : ∀ J', yN I J' → wkB l G (d + 3 + 1) n_X9_named (wkPI R (fun y I' L' => L' = L ∧ y = tk ∧ yN I I')) 49 [.ref 292, .int tk, .int k] [] J' L R := fun J' hJ' => w_X9_named_49 (ih J' (k + 1) (by rw [i_s (by omega)]; omega) (by rw [i_s (by omega)]; omega) (by rw [i_s (by omega)]; omega) hJ')
    refine w_X9_named_12 (fun _ => w_X9_named_55 ⟨rfl, rfl, _, rfl, rfl, rfl, hJ⟩) (fun _ => w_X9_named_20 (fun _ => w_X9_named_55 ⟨rfl, rfl, _, rfl, rfl, rfl, hJ⟩) (fun _ => w_X9_named_27 hR (vin h0 (by omega)) htk (fun _ => next J hJ) (fun _ => w_X9_named_43 (yWrong (d := d + 2) hR hJ.1.2.1 htk) (fun J1 L1 hq => ?_))))
    obtain ⟨rfl, q1, q2, q3⟩ := hq
    refine next J1 ⟨yS_tr hJ.1 q1, fun z => ?_⟩
    rw [q2]
    exact hJ.2 (by rw [← q3]; exact z)
theorem yNamed (hR : wkR R) (hk : yOk I) (hn : (I 292 20).toInt ≤ 12) : wkI l G (d + 4) n_X9_named [.ref 292] I L R (fun y I' L' => L' = L ∧ y = I 292 11 ∧ yN I I') := by
  refine wkC_of 2 (by decide) (Nat.le_of_ble_eq_true rfl) (w_X9_named_0 (yMust (d := d) hR hk) (fun I1 L1 hq => ?_))
  obtain ⟨rfl, h1, -⟩ := hq
  exact w_X9_named_10 (yNamedLoop (d := d) hR (yOk_t hk) hn _ I1 0 rfl (by decide) (by decide) h1)
theorem yEnds (hR : wkR R) (hk : yOk I) {tk : Int32} (htk : vp_in tk 403) (hn : I 292 13 = 0 → vp_in (I 292 20) 12) : wkV l G (d + 4) n_X9_ends [.ref 292, .int tk] I L R (fun I' _ => (I' 292 13 ≠ 0 ∧ yS I I') ∨ (I' 292 13 = 0 ∧ ∃ J, yN I J ∧ J 292 13 = 0 ∧ I' = qUp J 292 20 (I 292 20 + 1))) := by
  refine wkC_of 0 (by decide) (Nat.le_of_ble_eq_true rfl) (w_X9_ends_0 (yMust (d := d) hR hk) (fun I1 L1 hq => ?_))
  obtain ⟨rfl, h1, -⟩ := hq
  have e20 : I1 292 20 = I 292 20 := h1.1.1.2 20 (by decide) (by decide) (by decide) (by decide) (by decide)
  refine w_X9_ends_5 (fun q => ?_) (fun q => w_X9_ends_12 ⟨rfl, rfl, rfl, Or.inl ⟨fun z => q (by rw [z]; decide), h1.1⟩⟩)
  have f1 : I1 292 13 = 0 := by
    have a := h1.1.2.1.2.1
    have b := i_le.mp q
    rw [show (0 : Int32).toInt = 0 from rfl] at b
    exact i_eq.mpr (by rw [show (0 : Int32).toInt = 0 from rfl]; omega)
  refine w_X9_ends_13 hR htk (by rw [e20]; exact hn (yS_f0 h1.1 f1)) ⟨rfl, rfl, rfl, Or.inr ⟨?_, I1, h1, f1, by rw [e20]⟩⟩
  rw [qUp_ne (by omega)]
  exact f1
end
/-! ===== the state between two that are told ===== -/
/-- what side s of the rows may hold else; the rest stays -/
def yF (s : Nat) (I0 I : qMI) : Prop := (∀ k, k ≠ 292 → (k < 301 ∨ 320 < k) → I k = I0 k) ∧ (∀ i, i ≠ s → I 301 i = I0 301 i ∧ I 304 i = I0 304 i) ∧ (∀ i, (i < 5 * s ∨ 5 * s + 5 ≤ i) → I 311 i = I0 311 i ∧ I 312 i = I0 312 i) ∧ (∀ i, (i < 130 * s ∨ 130 * s + 130 ≤ i) → I 313 i = I0 313 i ∧ I 314 i = I0 314 i ∧ I 315 i = I0 315 i ∧ I 316 i = I0 316 i ∧ I 317 i = I0 317 i) ∧ (∀ i, (i < 420 * s ∨ 420 * s + 420 ≤ i) → I 318 i = I0 318 i ∧ I 319 i = I0 319 i) ∧ (∀ j, j ≠ 11 → j ≠ 12 → j ≠ 13 → j ≠ 14 → j ≠ 15 → j ≠ 16 → j ≠ 20 → j ≠ 34 → j ≠ 40 → j ≠ 44 → I 292 j = I0 292 j)
theorem yF_rf (s : Nat) (I : qMI) : yF s I I := ⟨fun _ _ _ => rfl, fun _ _ => ⟨rfl, rfl⟩, fun _ _ => ⟨rfl, rfl⟩, fun _ _ => ⟨rfl, rfl, rfl, rfl, rfl⟩, fun _ _ => ⟨rfl, rfl⟩, fun _ _ _ _ _ _ _ _ _ _ _ => rfl⟩
theorem yF_tr {s : Nat} {I J K : qMI} (h : yF s I J) (g : yF s J K) : yF s I K := by
  refine ⟨fun k a b => (g.1 k a b).trans (h.1 k a b), fun i a => ⟨(g.2.1 i a).1.trans (h.2.1 i a).1, (g.2.1 i a).2.trans (h.2.1 i a).2⟩, fun i a => ⟨(g.2.2.1 i a).1.trans (h.2.2.1 i a).1, (g.2.2.1 i a).2.trans (h.2.2.1 i a).2⟩, fun i a => ?_, fun i a => ⟨(g.2.2.2.2.1 i a).1.trans (h.2.2.2.2.1 i a).1, (g.2.2.2.2.1 i a).2.trans (h.2.2.2.2.1 i a).2⟩, fun j a1 a2 a3 a4 a5 a6 a7 a8 a9 a10 => (g.2.2.2.2.2 j a1 a2 a3 a4 a5 a6 a7 a8 a9 a10).trans (h.2.2.2.2.2 j a1 a2 a3 a4 a5 a6 a7 a8 a9 a10)⟩
  obtain ⟨x1, x2, x3, x4, x5⟩ := g.2.2.2.1 i a
  obtain ⟨y1, y2, y3, y4, y5⟩ := h.2.2.2.1 i a
  exact ⟨x1.trans y1, x2.trans y2, x3.trans y3, x4.trans y4, x5.trans y5⟩
theorem yF_l {s c0 b0 : Nat} {I J : qMI} (hc : 420 * s ≤ c0) (hb : 130 * s ≤ b0) (h : yL (420 * s) (130 * s) c0 b0 I J) : yF s I J := ⟨fun k a b => h.1 k a (by omega), fun i _ => ⟨by rw [h.1 301 (by decide) (by decide)], by rw [h.1 304 (by decide) (by decide)]⟩, fun i _ => ⟨by rw [h.1 311 (by decide) (by decide)], by rw [h.1 312 (by decide) (by decide)]⟩, fun i a => h.2.1 i (by omega), fun i a => h.2.2.1 i (by omega), fun j a1 a2 a3 a4 a5 a6 _ a8 a9 a10 => h.2.2.2 j a1 a2 a3 a4 a5 a6 a8 a9 a10⟩
theorem yF_t {s : Nat} {I J : qMI} (h : yT I J) : yF s I J := yF_l (c0 := 420 * s) (b0 := 130 * s) (Nat.le_refl _) (Nat.le_refl _) (yL_t h)
/-- a write into the side's own place, or one that doesn't count -/
theorem yF_up {s k i : Nat} {I : qMI} {x : Int32} (h : (k = 292 ∧ i = 20) ∨ ((k = 301 ∨ k = 304) ∧ i = s) ∨ (302 ≤ k ∧ k ≤ 310 ∧ k ≠ 304) ∨ ((k = 311 ∨ k = 312) ∧ 5 * s ≤ i ∧ i < 5 * s + 5)) : yF s I (qUp I k i x) := ⟨fun a b c => funext fun j => qUp_ne (fun q => by omega), fun j a => ⟨qUp_ne (fun q => by omega), qUp_ne (fun q => by omega)⟩, fun j a => ⟨qUp_ne (fun q => by omega), qUp_ne (fun q => by omega)⟩, fun j _ => ⟨qUp_ne (fun q => by omega), qUp_ne (fun q => by omega), qUp_ne (fun q => by omega), qUp_ne (fun q => by omega), qUp_ne (fun q => by omega)⟩, fun j _ => ⟨qUp_ne (fun q => by omega), qUp_ne (fun q => by omega)⟩, fun j _ _ _ _ _ _ _ _ _ _ => qUp_ne (fun q => by omega)⟩
