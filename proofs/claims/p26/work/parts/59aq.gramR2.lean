/-! ===== the reference's expressions, exact ===== -/
theorem rK_vals : rK 40 = 6 ∧ rK 41 = 7 ∧ rK 43 = 8 ∧ rK 45 = 9 ∧ rK 42 = 10 ∧ rK 47 = 15 ∧ rK 3 = 2 := by decide +kernel
theorem rK_var : ∀ a ∈ pVk, (34 ≤ (rK a).toInt ∧ (rK a).toInt ≤ 42) ↔ (142 ≤ a ∧ a < 151) := by decide +kernel
/-- it doesn't hang on other cells and fields -/
theorem rG_of {T : Nat} {K S : Nat → Int32} {N : Nat → Int64} {I J : qMI} {L M : qML} {z : pZ} (h : rG T K S N I L z) (eo : J 295 = I 295 ∧ J 296 = I 296 ∧ J 297 = I 297 ∧ M 298 = L 298) (e : ∀ j, (j = 11 ∨ j = 13 ∨ j = 14 ∨ j = 15 ∨ j = 16) → J 292 j = I 292 j) : rG T K S N J M z := by
  obtain ⟨h1, h2, h3, h4⟩ := h
  refine ⟨rT_of h1 eo.1 eo.2.1 eo.2.2.1 eo.2.2.2, ?_⟩
  rw [e 11 (by omega), e 13 (by omega), e 14 (by omega), e 15 (by omega), e 16 (by omega)]
  exact ⟨h2, h3, h4⟩
theorem rG_e {T : Nat} {K S : Nat → Int32} {N : Nat → Int64} {I J : qMI} {L M : qML} {z : pZ} {sb c0 : Nat} {I0 : qMI} (h : rG T K S N I L z) (g1 : yE sb c0 I0 I) (g2 : yE sb c0 I0 J) (eM : M 298 = L 298) (e : ∀ j, (j = 11 ∨ j = 13 ∨ j = 14 ∨ j = 15 ∨ j = 16) → J 292 j = I 292 j) : rG T K S N J M z := by
  refine rG_of h ⟨?_, ?_, ?_, eM⟩ e
  · rw [g1.1 295 (by decide) (by decide) (by decide) (by decide), g2.1 295 (by decide) (by decide) (by decide) (by decide)]
  · rw [g1.1 296 (by decide) (by decide) (by decide) (by decide), g2.1 296 (by decide) (by decide) (by decide) (by decide)]
  · rw [g1.1 297 (by decide) (by decide) (by decide) (by decide), g2.1 297 (by decide) (by decide) (by decide) (by decide)]
section
variable {l : Launch} {G : qG} {d : Nat} {I I0 : qMI} {L : qML} {R : qMR} {sb c0 base : Nat} {T : Nat} {K S : Nat → Int32} {N : Nat → Int64} {z : pZ}
/-- behind comesOut -/
def rO (sb c0 base : Nat) (I0 I : qMI) (op : Nat) (strong : Int32) (I' : qMI) : Prop := ∃ ws' n', yX sb c0 base I0 I' ws' n' 1 ∧ yOpn ws' = op ∧ (strong = 0 → yGp ws') ∧ (strong ≠ 0 → yGm ws') ∧ ∀ j, j ≠ 40 → j ≠ 44 → I' 292 j = I 292 j
theorem rOutLoop (hR : wkR R) (hsb : sb = 0 ∨ sb = 420) {strong : Int32} {J : qMI} {op : Nat} : ∀ (ws : List Int32) (n : Nat) (I : qMI), yX sb c0 base I0 I ws n 1 → yOpn ws = op → (∀ j, j ≠ 40 → j ≠ 44 → I 292 j = J 292 j) →
    wkB l G (d + 1 + 1) n_X9_comesOut (wkPV R (fun I' L' => L' = L ∧ rO sb c0 base I0 J op strong I')) 0 [.ref 292, .int strong, wkU] [] I L R := by
  intro ws
  induction ws with
  | nil =>
    intro n I h ho e1
    refine w_X9_comesOut_0 (fun _ => w_X9_comesOut_91 ⟨rfl, rfl, rfl, rfl, [], n, h, ho, fun _ => trivial, fun _ => trivial, e1⟩) (fun q => absurd (i_le.mpr ?_) q)
    rw [h.2.2.1.2.1]
    decide
  | cons w r ih =>
    intro n I h ho e1
    have h4 := h.2.2.1.2.1
    rw [List.length_cons] at h4
    have hlen := yX_len h
    rw [List.length_cons] at hlen
    have ei : (I 292 44 - 1).toInt = r.length := by rw [i_p' (by omega), h4]; omega
    have ew : I 320 (I 292 44 - 1).toNatClampNeg = w := by rw [tcn, ei]; exact h.2.2.1.1.1
    refine w_X9_comesOut_0 (fun q => absurd (i_le.mp q) (by rw [h4, show (0 : Int32).toInt = 0 from rfl]; omega)) (fun _ => w_X9_comesOut_7 hR (vin (by omega) (by omega)) (fun q => ?_) (fun q => ?_))
    · rw [ew] at q ⊢
      exact w_X9_comesOut_41 ⟨rfl, rfl, rfl, rfl, w :: r, n, h, ho, fun _ => q, fun _ => Or.inl q, e1⟩
    · rw [ew] at q ⊢
      have en : yOpn r = op := by rw [← ho, yOpn_c q]
      have go : ∀ k : Int32, (2 ≤ k.toInt ∧ k.toInt ≤ 5) → wkB l G (d + 1 + 1) n_X9_comesOut (wkPV R (fun I' L' => L' = L ∧ rO sb c0 base I0 J op strong I')) 84 [.ref 292, .int strong, .int w] [.int k, .ref 292] (qUp I 292 44 (I 292 44 - 1)) L R := by
        intro k hk
        have hx := yX_pop hsb h q hk
        refine w_X9_comesOut_84 (yEmit (d := d) hR (by rw [qUp_ne (by omega)]; exact (yX_c hsb h).1)) (fun I1 L1 hq => ?_)
        obtain ⟨rfl, rfl⟩ := hq
        exact w_X9_comesOut_88 (ih (n + 1) _ hx en (fun j a b => by rw [yEm_f a, qUp_ne (fun q => b q.2)]; exact e1 j a b))
      have pop : wkB l G (d + 1 + 1) n_X9_comesOut (wkPV R (fun I' L' => L' = L ∧ rO sb c0 base I0 J op strong I')) 42 [.ref 292, .int strong, .int w] [] I L R := w_X9_comesOut_42 (fun _ => w_X9_comesOut_63 (fun _ => w_X9_comesOut_73 (fun _ => w_X9_comesOut_83 (go 5 (by decide))) (fun _ => w_X9_comesOut_79 (go 4 (by decide)))) (fun _ => w_X9_comesOut_69 (go 3 (by decide)))) (fun _ => w_X9_comesOut_59 (go 2 (by decide)))
      refine w_X9_comesOut_25 (fun _ => pop) (fun s1 => w_X9_comesOut_29 (fun q8 => ?_) (fun _ => w_X9_comesOut_35 (fun _ => pop) (fun q9 => ?_)))
      · exact w_X9_comesOut_41 ⟨rfl, rfl, rfl, rfl, w :: r, n, h, ho, fun z => absurd z s1, fun _ => Or.inr (Or.inl q8), e1⟩
      · exact w_X9_comesOut_41 ⟨rfl, rfl, rfl, rfl, w :: r, n, h, ho, fun z => absurd z s1, fun _ => Or.inr (Or.inr q9), e1⟩
theorem rOut (hR : wkR R) (hsb : sb = 0 ∨ sb = 420) {strong : Int32} {ws : List Int32} {n : Nat} (h : yX sb c0 base I0 I ws n 1) : wkV l G (d + 2) n_X9_comesOut [.ref 292, .int strong] I L R (fun I' L' => L' = L ∧ rO sb c0 base I0 I (yOpn ws) strong I') :=
  wkC_of 1 (by decide) (Nat.le_of_ble_eq_true rfl) (rOutLoop (d := d) hR hsb ws n I h rfl (fun _ _ _ => rfl))
theorem rG_em {k v : Int32} (h : rG T K S N I L z) : rG T K S N (yEm k v I) L z := rG_of h ⟨yEm_o (by decide) (by decide) (by decide), yEm_o (by decide) (by decide) (by decide), yEm_o (by decide) (by decide) (by decide), rfl⟩ (fun j hj => yEm_f (by omega))
theorem rG_push {w : Int32} (h : rG T K S N I L z) : rG T K S N (yPush w I) L z := rG_of h ⟨yPush_o (by decide) (by decide), yPush_o (by decide) (by decide), yPush_o (by decide) (by decide), rfl⟩ (fun j hj => yPush_f (by omega))
theorem rG_f {j : Nat} {x : Int32} (hj : j ≠ 11 ∧ j ≠ 13 ∧ j ≠ 14 ∧ j ≠ 15 ∧ j ≠ 16) (h : rG T K S N I L z) : rG T K S N (qUp I 292 j x) L z := rG_of h ⟨funext fun i => qUp_ne (by omega), funext fun i => qUp_ne (by omega), funext fun i => qUp_ne (by omega), rfl⟩ (fun i hi => qUp_ne (by omega))
theorem zUn_f {e : Nat} {z : pZ} (h : pf z ≠ 0) : zUn K S e z = z := by
  cases e with
  | zero => rw [zUn, if_neg h]
  | succ e => rw [zUn, if_neg h]
theorem zUn_t {e : Nat} {z : pZ} (h : pf z = 0) (q : K (pt z) = 3 ∨ (142 ≤ K (pt z) ∧ K (pt z) < 151)) : zUn K S e z = zTake S true z := by
  cases e with
  | zero => rw [zUn, if_pos h, if_pos q]
  | succ e => rw [zUn, if_pos h, if_pos q]
theorem zUn_n {e : Nat} {z : pZ} (h : pf z = 0) (q : ¬ (K (pt z) = 3 ∨ (142 ≤ K (pt z) ∧ K (pt z) < 151))) (q4 : ¬ K (pt z) = 40) : zUn K S e z = zFail S 1 z := by
  cases e with
  | zero => rw [zUn, if_pos h, if_neg q, if_neg q4]
  | succ e => rw [zUn, if_pos h, if_neg q, if_neg q4]
theorem rUnit (hR : wkR R) {ws : List Int32} {n : Nat} (hsb : sb = 0 ∨ sb = 420) (h : yX sb c0 base I0 I ws n 0) (g : rG T K S N I L z) (hn : ¬ (pf z = 0 ∧ K (pt z) = 40)) {e : Nat} : wkV l G (d + 3) n_X9_unit [.ref 292] I L R (fun I' L' => L' = L ∧ ((I' 292 13 ≠ 0 ∧ (∃ n' fl', yX sb c0 base I0 I' ws n' fl')) ∨ (I' 292 13 = 0 ∧ (I' 292 11).toInt = (I 292 11).toInt + 1 ∧ yX sb c0 base I0 I' ws (n + 1) 1)) ∧ rG T K S N I' L' (zUn K S e z)) := by
  have hk := h.2.1
  have bad : ¬ (pf z = 0 ∧ (K (pt z) = 3 ∨ (142 ≤ K (pt z) ∧ K (pt z) < 151))) → wkB l G (d + 2 + 1) n_X9_unit (wkPV R (fun I' L' => L' = L ∧ ((I' 292 13 ≠ 0 ∧ (∃ n' fl', yX sb c0 base I0 I' ws n' fl')) ∨ (I' 292 13 = 0 ∧ (I' 292 11).toInt = (I 292 11).toInt + 1 ∧ yX sb c0 base I0 I' ws (n + 1) 1)) ∧ rG T K S N I' L' (zUn K S e z))) 88 [.ref 292] [] I L R := fun c => w_X9_unit_88 (rFail (d := d + 1) hR hk g.w (by decide) (by decide)) (fun I1 L1 hq => by
    obtain ⟨rfl, q1, q2, -, q4⟩ := hq
    refine w_X9_unit_93 ⟨rfl, rfl, rfl, rfl, Or.inl ⟨q2, n, 0, yX_s h q1⟩, ?_⟩
    have ez : zUn K S e z = zFail S 1 z := by
      by_cases hf : pf z = 0
      · exact zUn_n hf (fun x => c ⟨hf, x⟩) (fun x => hn ⟨hf, x⟩)
      · rw [zUn_f hf, zFail_f hf]
    rw [ez]
    exact q4)
  have good : ∀ (k v : Int32), I 292 13 = 0 → (k = 0 ∨ (k = 1 ∧ vp_in v 9)) → ∀ I2 : qMI, yN (yEm k v I) I2 → (I2 292 13 ≠ 0 ∧ (∃ n' fl', yX sb c0 base I0 I2 ws n' fl')) ∨ (I2 292 13 = 0 ∧ (I2 292 11).toInt = (I 292 11).toInt + 1 ∧ yX sb c0 base I0 I2 ws (n + 1) 1) := by
    intro k v hf hkv I2 hN
    have hx := yX_unit hsb h hf hkv hN
    by_cases q : I2 292 13 = 0
    · exact Or.inr ⟨q, by rw [hN.2 q, yEm_f (by decide)], hx⟩
    · exact Or.inl ⟨q, _, _, hx⟩
  have ok2 : ∀ k v : Int32, yOk (yEm k v I) := fun k v => by
    unfold yOk
    rw [yEm_f (by decide), yEm_f (by decide)]
    exact hk
  refine wkC_of 0 (by decide) (Nat.le_of_ble_eq_true rfl) (w_X9_unit_0 (rIs (k := 3) (d := d + 1) hR hk g (by decide)) (fun y I' L' hq => ?_))
  obtain ⟨rfl, rfl, hy⟩ := hq
  rcases hy with ⟨rfl, f0, k3⟩ | ⟨rfl, c3⟩
  · have f00 : I' 292 13 = 0 := by rw [g.2.1]; exact f0
    refine w_X9_unit_5 (fun q => absurd q (by decide)) (fun _ => w_X9_unit_8 hR (yOk_t hk) (yEmit (d := d + 1) hR (yX_c hsb h).1) (fun I1 L1 hq => ?_))
    obtain ⟨rfl, rfl⟩ := hq
    refine w_X9_unit_22 (rGoes (d := d) hR (ok2 _ _) (rG_em g).w (fun _ => by rw [k3]; decide)) (fun I2 L2 hq => ?_)
    obtain ⟨rfl, hN, g2⟩ := hq
    exact w_X9_unit_26 (w_X9_unit_93 ⟨rfl, rfl, rfl, rfl, good _ _ f00 (Or.inl rfl) I2 hN, by rw [zUn_t f0 (Or.inl k3)]; exact g2⟩)
  · have nov : ∀ (P : Prop), (pf z = 0 → ¬ P) → (∀ x : pf z = 0, (142 ≤ K (pt z) ∧ K (pt z) < 151) → P) → ¬ (pf z = 0 ∧ (K (pt z) = 3 ∨ (142 ≤ K (pt z) ∧ K (pt z) < 151))) := fun P a b c => by
      rcases c.2 with x | x
      · exact c3 ⟨c.1, x⟩
      · exact a c.1 (b c.1 x)
    have kv : pf z = 0 → I' 295 (I' 292 11).toNatClampNeg = rK (K (pt z)) ∧ K (pt z) ∈ pVk := fun x => by
      obtain ⟨a1, a2, a3, a4, a5⟩ := rAt g.w x
      rw [a1]
      exact ⟨a4, a3⟩
    refine w_X9_unit_5 (fun _ => w_X9_unit_29 (fun q => bad (fun c => q (by rw [g.2.1]; exact c.1))) (fun f0 => w_X9_unit_36 hR (yOk_t hk) (fun q => bad (nov _ (fun x y => ?_) (fun x y => ((rK_var _ (kv x).2).mpr y).1))) (fun g1 => w_X9_unit_50 hR (yOk_t hk) (fun q => bad (nov _ (fun x y => ?_) (fun x y => ((rK_var _ (kv x).2).mpr y).2))) (fun g2 => w_X9_unit_64 hR (yOk_t hk) (yEmit (d := d + 1) hR (yX_c hsb h).1) (fun I1 L1 hq => ?_))))) (fun q => absurd rfl q)
    · rw [(kv x).1] at q
      have := i_lt.mp q
      rw [show (34 : Int32).toInt = 34 from rfl] at this
      omega
    · rw [(kv x).1] at q
      have := i_lt.mp q
      rw [show (42 : Int32).toInt = 42 from rfl] at this
      omega
    obtain ⟨rfl, rfl⟩ := hq
    have a1 : ¬ _ := fun q => g1 (i_lt.mpr q)
    have a2 : ¬ _ := fun q => g2 (i_lt.mpr q)
    rw [show (34 : Int32).toInt = 34 from rfl] at a1
    rw [show (42 : Int32).toInt = 42 from rfl] at a2
    have e' := i_sub (x := I' 295 (I' 292 11).toNatClampNeg) (y := 34) (by rw [show (34 : Int32).toInt = 34 from rfl]; omega) (by rw [show (34 : Int32).toInt = 34 from rfl]; omega)
    rw [show (34 : Int32).toInt = 34 from rfl] at e'
    have f00 : pf z = 0 := by rw [← g.2.1]; exact f0
    have kz : 142 ≤ K (pt z) ∧ K (pt z) < 151 := (rK_var _ (kv f00).2).mp (by rw [← (kv f00).1]; omega)
    refine w_X9_unit_81 (rGoes (d := d) hR (ok2 _ _) (rG_em g).w (fun _ q => by rw [q] at kz; exact absurd kz (by decide))) (fun I2 L2 hq => ?_)
    obtain ⟨rfl, hN, g2'⟩ := hq
    exact w_X9_unit_85 (w_X9_unit_93 ⟨rfl, rfl, rfl, rfl, good _ _ f0 (Or.inr ⟨rfl, vin (by omega) (by omega)⟩) I2 hN, by rw [zUn_t f00 (Or.inr kz)]; exact g2'⟩)
end
