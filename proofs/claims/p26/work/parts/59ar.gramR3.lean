/-! ===== the reference's expressions, exact: the loop ===== -/
section
variable {l : Launch} {G : qG} {d : Nat} {I0 : qMI} {L : qML} {R : qMR} {sb c0 base : Nat} {T : Nat} {K S : Nat → Int32} {N : Nat → Int64} {E : pZ}
/-- before a unit -/
def rU (K S : Nat → Int32) (E : pZ) (ws : List Int32) (z : pZ) : Prop := zAO K S (yOpn ws) (zUn K S (6 - yOpn ws) z) = E
theorem rU_f {ws : List Int32} {z : pZ} (hf : pf z ≠ 0) : rU K S E ws z ↔ z = E := by
  unfold rU
  rw [zUn_f hf, zAO_f _ hf]
theorem rOpenLoop (hR : wkR R) {Q : qQ} {b more : Int32} {n : Nat} {tl : Int} (KK : ∀ (I' : qMI) (ws' : List Int32) (z' : pZ), yX sb c0 0 I0 I' ws' n 0 → tl ≤ (I' 292 11).toInt → rG T K S N I' L z' → rU K S E ws' z' → ¬ (pf z' = 0 ∧ K (pt z') = 40) → wkB l G (d + 2 + 1) n_X9_expression Q 84 [.ref 292, .int b, .int more] [] I' L R) : ∀ (m : Nat) (I : qMI) (ws : List Int32) (z : pZ), (400 - (I 292 11).toInt).toNat = m → yX sb c0 0 I0 I ws n 0 → tl ≤ (I 292 11).toInt → rG T K S N I L z → rU K S E ws z → wkB l G (d + 2 + 1) n_X9_expression Q 23 [.ref 292, .int b, .int more] [] I L R := by
  intro m
  induction m using Nat.strongRecOn with
  | ind m ih =>
    intro I ws z hm h ht g hu
    refine w_X9_expression_23 (P := fun y I' L' => L' = L ∧ I' = I ∧ ((y = 1 ∧ pf z = 0 ∧ K (pt z) = 40) ∨ (y = 0 ∧ ¬ (pf z = 0 ∧ K (pt z) = 40)))) (by rw [← rK_vals.1]; exact rIs (k := 40) (d := d + 1) hR h.2.1 g (by decide)) (fun y I' L' hq => ?_)
    obtain ⟨rfl, rfl, hy⟩ := hq
    rcases hy with ⟨rfl, f0, k40⟩ | ⟨rfl, c40⟩
    case inr => exact w_X9_expression_29 (fun _ => KK I' ws z h ht g hu c40) (fun q => absurd rfl q)
    refine w_X9_expression_29 (fun q => absurd q (by decide)) (fun _ => ?_)
    have t0 := h.2.1.1
    have f00 : I' 292 13 = 0 := by rw [g.2.1]; exact f0
    have h8 := h.2.2.2.1.2.2 f00
    have h6 := h.2.2.2.1.1
    rw [Nat.zero_add] at h8 h6
    -- from 46 on
    have go : ∀ (I1 : qMI) (z1 : pZ), yX sb c0 0 I0 I1 ws n 0 → 0 + yOpn ws ≤ 6 → (I1 292 13 = 0 → 0 + yOpn ws ≤ 5) → I1 292 11 = I' 292 11 → rG T K S N I1 L' z1 → (pf z1 = 0 → K (pt z1) ≠ 0) → rU K S E (6 :: ws) (zTake S true z1) → wkB l G (d + 2 + 1) n_X9_expression Q 46 [.ref 292, .int b, .int more] [] I1 L' R := by
      intro I1 z1 h1 hb hb0 e1 g1 hn1 hu1
      have ok2 : yOk (qUp I1 292 12 (I1 292 12 + 1)) := by
        unfold yOk
        rw [qUp_ne (by omega), qUp_ne (by omega)]
        exact h1.2.1
      refine w_X9_expression_46 (rGoes (d := d) hR ok2 (rG_f (by omega) g1).w hn1) (fun I2 L2 hq => ?_)
      obtain ⟨rfl, hN, g2⟩ := hq
      have hx := yX_open h1 hb hb0 hN
      have hl := yX_len h1
      have e44 : I2 292 44 = I1 292 44 := (hN.1.1.2 44 (by decide) (by decide) (by decide) (by decide) (by decide)).trans (qUp_ne (by omega))
      have hw : vp_in (I2 292 44) 64 := by
        have := h1.2.2.1.2.1
        rw [e44]
        exact vin (by omega) (by omega)
      refine w_X9_expression_60 hR hw ?_
      rw [yPush_eq]
      have p11 : yPush 6 I2 292 11 = I2 292 11 := yPush_f (by decide)
      have p13 : yPush 6 I2 292 13 = I2 292 13 := yPush_f (by decide)
      have t2 := hN.1.2.2.1
      rw [show (qUp I1 292 12 (I1 292 12 + 1)) 292 11 = I1 292 11 from qUp_ne (by omega), e1] at t2
      by_cases hf : I2 292 13 = 0
      · have := hN.2 hf
        rw [show (qUp I1 292 12 (I1 292 12 + 1)) 292 11 = I1 292 11 from qUp_ne (by omega), e1] at this
        have t3 := hN.1.2.1.1
        exact ih (400 - (yPush 6 I2 292 11).toInt).toNat (by rw [p11]; omega) (yPush 6 I2) (6 :: ws) _ rfl hx (by rw [p11]; omega) (rG_push g2) hu1
      · have hf2 : pf (zTake S true z1) ≠ 0 := by rw [← g2.2.1]; exact hf
        refine w_X9_expression_23 (P := fun y I' L' => L' = L2 ∧ I' = yPush 6 I2 ∧ ((y = 1 ∧ pf (zTake S true z1) = 0 ∧ K (pt (zTake S true z1)) = 40) ∨ (y = 0 ∧ ¬ (pf (zTake S true z1) = 0 ∧ K (pt (zTake S true z1)) = 40)))) (by rw [← rK_vals.1]; exact rIs (k := 40) (d := d + 1) hR hx.2.1 (rG_push g2) (by decide)) (fun y I3 L3 hq => ?_)
        obtain ⟨rfl, rfl, hy⟩ := hq
        rcases hy with ⟨-, q, -⟩ | ⟨rfl, q⟩
        · exact absurd q hf2
        · exact w_X9_expression_29 (fun _ => KK _ (6 :: ws) _ hx (by rw [p11]; omega) (rG_push g2) hu1 q) (fun q => absurd rfl q)
    refine w_X9_expression_32 (fun q => ?_) (fun q => w_X9_expression_41 (rFail (d := d + 1) hR h.2.1 g.w (by decide) (by decide)) (fun I1 L1 hq => ?_))
    · have : ¬ (I' 292 12).toInt = 6 := fun x => q (i_eq.mpr x)
      refine go I' z h (by omega) (fun _ => by omega) rfl g (fun _ => by rw [k40]; decide) ?_
      unfold rU at hu ⊢
      rw [yOpn_6, ← zAO_open (by omega) f0 k40]
      exact hu
    · obtain ⟨rfl, q1, q2, q3, q4⟩ := hq
      have hF : pf (zFail S 2 z) ≠ 0 := zFail_n (by decide)
      refine go I1 (zFail S 2 z) (yX_s h q1) (by omega) (fun x => absurd x q2) q3 q4 (fun x => absurd x hF) ?_
      rw [zTake_f hF, rU_f hF]
      have e6 : yOpn ws = 6 := by
        have := i_eq.mp q
        rw [show (6 : Int32).toInt = 6 from rfl] at this
        omega
      unfold rU at hu
      rw [e6, show 6 - 6 = 0 from rfl, zUn_full f0 k40, zAO_f _ hF] at hu
      exact hu
theorem rCloseLoop (hR : wkR R) (hsb : sb = 0 ∨ sb = 420) {Q : qQ} {b more : Int32} (hb : b.toInt = 0) {tl : Int} (KK : ∀ (I' : qMI) (ws' : List Int32) (n' : Nat) (z' : pZ), yX sb c0 0 I0 I' ws' n' 1 → tl ≤ (I' 292 11).toInt → rG T K S N I' L z' → zAO K S (yOpn ws') z' = E → (¬ (pf z' = 0 ∧ K (pt z') = 41) ∨ yOpn ws' = 0) → wkB l G (d + 2 + 1) n_X9_expression Q 145 [.ref 292, .int b, .int more] [] I' L R) : ∀ (m : Nat) (I : qMI) (ws : List Int32) (n : Nat) (z : pZ), (400 - (I 292 11).toInt).toNat = m → yX sb c0 0 I0 I ws n 1 → tl ≤ (I 292 11).toInt → rG T K S N I L z → zAO K S (yOpn ws) z = E → wkB l G (d + 2 + 1) n_X9_expression Q 96 [.ref 292, .int b, .int more] [] I L R := by
  intro m
  induction m using Nat.strongRecOn with
  | ind m ih =>
    intro I ws n z hm h ht g ha
    refine w_X9_expression_96 (P := fun y I' L' => L' = L ∧ I' = I ∧ ((y = 1 ∧ pf z = 0 ∧ K (pt z) = 41) ∨ (y = 0 ∧ ¬ (pf z = 0 ∧ K (pt z) = 41)))) (by rw [← rK_vals.2.1]; exact rIs (k := 41) (d := d + 1) hR h.2.1 g (by decide)) (fun y I' L' hq => ?_)
    obtain ⟨rfl, rfl, hy⟩ := hq
    rcases hy with ⟨rfl, f0, k41⟩ | ⟨rfl, c41⟩
    case inr => exact w_X9_expression_102 (fun _ => KK I' ws n z h ht g ha (Or.inl c41)) (fun q => absurd rfl q)
    have h6 := h.2.2.2.1.1
    rw [Nat.zero_add] at h6
    refine w_X9_expression_102 (fun q => absurd q (by decide)) (fun _ => w_X9_expression_105 (fun q => KK I' ws n z h ht g ha (Or.inr (by have := i_le.mp q; omega))) (fun hop => ?_))
    refine w_X9_expression_113 (rOut (d := d) hR hsb h) (fun I1 L1 hq => ?_)
    obtain ⟨rfl, ws1, n1, h1, e1, e2, -, e3⟩ := hq
    have g1 : rG T K S N I1 L1 z := rG_e g h.1 h1.1 rfl (fun j hj => e3 j (by omega) (by omega))
    have hop : ¬ _ := fun q => hop (i_le.mpr q)
    rw [h6, hb] at hop
    have hpos : 0 < yOpn ws1 := by omega
    cases ws1 with
    | nil => exact absurd hpos (by decide)
    | cons w r =>
      have hw : w = 6 := e2 rfl
      subst hw
      have hx := yX_close h1
      have e12 : (qUp I1 292 44 (I1 292 44 - 1)) 292 12 = I1 292 12 := qUp_ne (by omega)
      refine w_X9_expression_118 (P := fun I2 L2 => L2 = L1 ∧ yN (qUp (qUp I1 292 44 (I1 292 44 - 1)) 292 12 (I1 292 12 - 1)) I2 ∧ rG T K S N I2 L2 (zTake S true z)) (by rw [e12]; exact rGoes (d := d) hR hx.2.1 (rG_f (by omega) (rG_f (by omega) g1)).w (fun _ => by rw [k41]; decide)) (fun I2 L2 hq => ?_)
      obtain ⟨rfl, hN, g2⟩ := hq
      have hx2 := yX_s hx hN.1
      have e11 : (qUp (qUp I1 292 44 (I1 292 44 - 1)) 292 12 (I1 292 12 - 1)) 292 11 = I' 292 11 := by rw [qUp_ne (by omega), qUp_ne (by omega), e3 11 (by decide) (by decide)]
      have t2 := hN.1.2.2.1
      rw [e11] at t2
      have t3 := hN.1.2.1.1
      have t0 := h.2.1.1
      have ha2 : zAO K S (yOpn r) (zTake S true z) = E := by
        rw [yOpn_6] at e1
        rw [← e1, zAO_close k41] at ha
        unfold zMust at ha
        rw [decide_eq_true k41] at ha
        exact ha
      refine w_X9_expression_142 ?_
      by_cases hf : I2 292 13 = 0
      · have := hN.2 hf
        rw [e11] at this
        exact ih (400 - (I2 292 11).toInt).toNat (by omega) I2 r n1 _ rfl hx2 (by omega) g2 ha2
      · have hf2 : pf (zTake S true z) ≠ 0 := by rw [← g2.2.1]; exact hf
        refine w_X9_expression_96 (P := fun y I' L' => L' = L2 ∧ I' = I2 ∧ ((y = 1 ∧ pf (zTake S true z) = 0 ∧ K (pt (zTake S true z)) = 41) ∨ (y = 0 ∧ ¬ (pf (zTake S true z) = 0 ∧ K (pt (zTake S true z)) = 41)))) (by rw [← rK_vals.2.1]; exact rIs (k := 41) (d := d + 1) hR hx2.2.1 g2 (by decide)) (fun y I3 L3 hq => ?_)
        obtain ⟨rfl, rfl, hy⟩ := hq
        rcases hy with ⟨-, q, -⟩ | ⟨rfl, q⟩
        · exact absurd q hf2
        · exact w_X9_expression_102 (fun _ => KK I3 r n1 _ hx2 (by omega) g2 ha2 (Or.inl q)) (fun q => absurd rfl q)
theorem rExprLoop (hR : wkR R) (hsb : sb = 0 ∨ sb = 420) {b : Int32} (hb : b.toInt = 0) : ∀ (m : Nat) (I : qMI) (ws : List Int32) (n : Nat) (z : pZ), (400 - (I 292 11).toInt).toNat = m → yX sb c0 0 I0 I ws n 0 → rG T K S N I L z → rU K S E ws z → wkB l G (d + 3 + 1) n_X9_expression (wkPV R (fun I' L' => L' = L ∧ yXP sb c0 0 I0 I' ∧ rG T K S N I' L' E)) 12 [.ref 292, .int b, .int 1] [] I L R := by
  intro m
  induction m using Nat.strongRecOn with
  | ind m ih =>
    intro I ws n z hm h g hu
    refine w_X9_expression_12 (fun q => absurd q (by decide)) (fun _ => w_X9_expression_16 (fun q => w_X9_expression_272 ⟨rfl, rfl, rfl, rfl, ⟨ws, n, 0, h, fun x => absurd x q⟩, ?_⟩) (fun f0 => ?_))
    · rw [← (rU_f (by rw [← g.2.1]; exact q)).mp hu]; exact g
    have t0 := h.2.1.1
    have ti := h.2.2.2.2.2.2.1
    -- not more: the end
    have stop : ∀ (I1 : qMI) (ws1 : List Int32) (n1 : Nat) (z1 : pZ), yX sb c0 0 I0 I1 ws1 n1 1 → (I 292 11).toInt + 1 ≤ (I1 292 11).toInt → rG T K S N I1 L z1 → zAO K S (yOpn ws1) z1 = E → (¬ (pf z1 = 0 ∧ K (pt z1) = 41) ∨ yOpn ws1 = 0) → (pf z1 = 0 → ¬ zMul (K (pt z1)) = true ∧ ¬ zAdd (K (pt z1)) = true) → wkB l G (d + 3 + 1) n_X9_expression (wkPV R (fun I' L' => L' = L ∧ yXP sb c0 0 I0 I' ∧ rG T K S N I' L' E)) 191 [.ref 292, .int b, .int 0] [] I1 L R := by
      intro I1 ws1 n1 z1 h1 t1 g1 ha hcl hno
      have fin : ∀ I2 : qMI, yX sb c0 0 I0 I2 ws1 n1 1 → (I2 292 13 = 0 → yOpn ws1 = 0) → (I 292 11).toInt + 1 ≤ (I2 292 11).toInt → rG T K S N I2 L E → wkB l G (d + 3 + 1) n_X9_expression (wkPV R (fun I' L' => L' = L ∧ yXP sb c0 0 I0 I' ∧ rG T K S N I' L' E)) 204 [.ref 292, .int b, .int 0] [] I2 L R := by
        intro I2 h2 ho t2 g2
        refine w_X9_expression_204 (rOut (d := d + 1) hR hsb h2) (fun I3 L3 hq => ?_)
        obtain ⟨rfl, ws3, n3, h3, e1, e2, -, e3⟩ := hq
        refine w_X9_expression_209 ⟨rfl, rfl, rfl, rfl, ⟨ws3, n3, 1, h3, fun x => ⟨yGp_nil (e2 rfl) (by rw [e1]; exact ho (by rw [← e3 13 (by decide) (by decide)]; exact x)), rfl, ?_⟩⟩, rG_e g2 h2.1 h3.1 rfl (fun j hj => e3 j (by omega) (by omega))⟩
        rw [e3 11 (by decide) (by decide)]
        omega
      have h6 := h1.2.2.2.1.1
      rw [Nat.zero_add] at h6
      refine w_X9_expression_191 (fun q => ?_) (fun q => w_X9_expression_199 (rFail (d := d + 2) hR h1.2.1 g1.w (by decide) (by decide)) (fun I2 L2 hq => ?_))
      · have o0 : yOpn ws1 = 0 := by have := i_le.mp q; omega
        refine fin I1 h1 (fun _ => o0) t1 ?_
        rw [o0] at ha
        by_cases hf : pf z1 = 0
        · rw [zAO_end0 (hno hf).1 (hno hf).2] at ha
          rw [← ha]; exact g1
        · rw [zAO_f _ hf] at ha
          rw [← ha]; exact g1
      · obtain ⟨rfl, q1, q2, q3, q4⟩ := hq
        refine fin I2 (yX_s h1 q1) (fun x => absurd x q2) (by rw [q3]; exact t1) ?_
        have op : ¬ yOpn ws1 = 0 := fun x => q (i_le.mpr (by omega))
        by_cases hf : pf z1 = 0
        · obtain ⟨o, ho⟩ : ∃ o, yOpn ws1 = o + 1 := ⟨yOpn ws1 - 1, by omega⟩
          rw [ho, zAO_end hf (fun x => hcl.elim (fun y => y ⟨hf, x⟩) op) (hno hf).1 (hno hf).2] at ha
          rw [← ha]; exact q4
        · rw [zAO_f _ hf] at ha
          rw [← ha]
          rw [zFail_f hf] at q4
          exact q4
    -- an operator: on
    have go : ∀ (I1 : qMI) (ws1 : List Int32) (n1 : Nat) (z1 : pZ), yX sb c0 0 I0 I1 ws1 n1 1 → (I 292 11).toInt + 1 ≤ (I1 292 11).toInt → rG T K S N I1 L z1 → zAO K S (yOpn ws1) z1 = E → pf z1 = 0 → (K (pt z1) = 43 ∨ K (pt z1) = 45 ∨ K (pt z1) = 42 ∨ K (pt z1) = 47) → wkB l G (d + 3 + 1) n_X9_expression (wkPV R (fun I' L' => L' = L ∧ yXP sb c0 0 I0 I' ∧ rG T K S N I' L' E)) 210 [.ref 292, .int b, .int 1] [] I1 L R := by
      intro I1 ws1 n1 z1 h1 t1 g1 ha f1 hop
      have f10 : I1 292 13 = 0 := by rw [g1.2.1]; exact f1
      obtain ⟨k1', k2', k3', k4', k5'⟩ := rAt g1.w f1
      have kz : I1 295 (I1 292 11).toNatClampNeg = rK (K (pt z1)) := by rw [k1']; exact k4'
      have h8 := h1.2.2.2.1.2.2 f10
      have hE2 : ∀ ws2, yOpn ws2 = yOpn ws1 → rU K S E ws2 (zTake S true z1) := fun ws2 e => by
        unfold rU
        rw [e, ← zAO_op (by omega) f1 (by have := (g1.2.2.2 f1).1; have := g1.1.1.2.1; omega) (by rcases hop with q | q | q | q <;> rw [q] <;> decide)]
        exact ha
      have out : ∀ s : Int32, (s = 0 → (K (pt z1) = 43 ∨ K (pt z1) = 45)) → (s ≠ 0 → (K (pt z1) = 42 ∨ K (pt z1) = 47)) → wkB l G (d + 3 + 1) n_X9_expression (wkPV R (fun I' L' => L' = L ∧ yXP sb c0 0 I0 I' ∧ rG T K S N I' L' E)) 234 [.ref 292, .int b, .int 1] [.int s, .ref 292] I1 L R := by
        intro s hs0 hs1
        refine w_X9_expression_234 (rOut (d := d + 1) hR hsb h1) (fun I2 L2 hq => ?_)
        obtain ⟨rfl, ws2, n2, h2, e1, e2, e3, e4⟩ := hq
        have g2 : rG T K S N I2 L2 z1 := rG_e g1 h1.1 h2.1 rfl (fun j hj => e4 j (by omega) (by omega))
        have hl := yX_len h2
        have h44 := h2.2.2.1.2.1
        have e295 : I2 295 = I1 295 := by rw [h2.1.1 295 (by decide) (by decide) (by decide) (by decide), h1.1.1 295 (by decide) (by decide) (by decide) (by decide)]
        have hw2 : I2 295 (I2 292 11).toNatClampNeg = rK (K (pt z1)) := by rw [e4 11 (by decide) (by decide), e295]; exact kz
        have hw6 : rK (K (pt z1)) ≠ 6 := by rcases hop with q | q | q | q <;> rw [q] <;> decide
        have hok : yOkw (rK (K (pt z1)) :: ws2) := by
          refine ⟨?_, h2.2.2.1.2.2⟩
          by_cases hs : s = 0
          · refine Or.inr (Or.inl ⟨?_, e2 hs⟩)
            rcases hs0 hs with q | q <;> rw [q] <;> decide
          · refine Or.inr (Or.inr ⟨?_, e3 hs⟩)
            rcases hs1 hs with q | q <;> rw [q] <;> decide
        have okP : yOk (yPush (rK (K (pt z1))) I2) := by
          unfold yOk
          rw [yPush_f (by decide), yPush_f (by decide)]
          exact h2.2.1
        refine w_X9_expression_237 (P := fun I3 L3 => L3 = L2 ∧ yN (yPush (rK (K (pt z1))) I2) I3 ∧ rG T K S N I3 L3 (zTake S true z1)) hR (yOk_t h2.2.1) (vin (by omega) (by omega)) ?_ (fun I3 L3 hq => ?_)
        · rw [hw2, yPush_eq]
          exact rGoes (d := d + 1) hR okP (rG_push g2).w (fun _ => by rcases hop with q | q | q | q <;> rw [q] <;> decide)
        · obtain ⟨rfl, hN, g3⟩ := hq
          have hx := yX_push h2 (by rw [e4 13 (by decide) (by decide)]; exact f10) hw6 hok hN
          have t3 := hN.1.2.2.1
          rw [yPush_f (by decide), e4 11 (by decide) (by decide)] at t3
          have t4 := hN.1.2.1.1
          exact w_X9_expression_269 (ih (400 - (I3 292 11).toInt).toNat (by omega) I3 (rK (K (pt z1)) :: ws2) n2 _ rfl hx g3 (hE2 _ (by rw [yOpn_c hw6]; exact e1)))
      refine w_X9_expression_210 (P := fun y I' L' => L' = L ∧ I' = I1 ∧ ((y = 1 ∧ pf z1 = 0 ∧ K (pt z1) = 42) ∨ (y = 0 ∧ ¬ (pf z1 = 0 ∧ K (pt z1) = 42)))) (by rw [← rK_vals.2.2.2.2.1]; exact rIs (k := 42) (d := d + 2) hR h1.2.1 g1 (by decide)) (fun y I2 L2 hq => ?_)
      obtain ⟨rfl, rfl, hy⟩ := hq
      rcases hy with ⟨rfl, -, k1⟩ | ⟨rfl, k1⟩
      · exact w_X9_expression_217 (fun _ => w_X9_expression_229 (out 1 (fun q => absurd q (by decide)) (fun _ => Or.inl k1))) (fun q => absurd q (by decide))
      · refine w_X9_expression_217 (fun q => absurd rfl q) (fun _ => w_X9_expression_220 (P := fun y I' L' => L' = L2 ∧ I' = I2 ∧ ((y = 1 ∧ pf z1 = 0 ∧ K (pt z1) = 47) ∨ (y = 0 ∧ ¬ (pf z1 = 0 ∧ K (pt z1) = 47)))) (by rw [← rK_vals.2.2.2.2.2.1]; exact rIs (k := 47) (d := d + 2) hR h1.2.1 g1 (by decide)) (fun y I3 L3 hq => ?_))
        obtain ⟨rfl, rfl, hy⟩ := hq
        rcases hy with ⟨rfl, -, k2⟩ | ⟨rfl, k2⟩
        · exact w_X9_expression_226 (fun q => absurd q (by decide)) (fun _ => w_X9_expression_229 (out 1 (fun q => absurd q (by decide)) (fun _ => Or.inr k2)))
        · refine w_X9_expression_226 (fun _ => w_X9_expression_233 (out 0 (fun _ => ?_) (fun q => absurd rfl q))) (fun q => absurd rfl q)
          rcases hop with q | q | q | q
          · exact Or.inl q
          · exact Or.inr q
          · exact absurd ⟨f1, q⟩ k1
          · exact absurd ⟨f1, q⟩ k2
    -- which it is
    have more : ∀ (I1 : qMI) (ws1 : List Int32) (n1 : Nat) (z1 : pZ), yX sb c0 0 I0 I1 ws1 n1 1 → (I 292 11).toInt + 1 ≤ (I1 292 11).toInt → rG T K S N I1 L z1 → zAO K S (yOpn ws1) z1 = E → (¬ (pf z1 = 0 ∧ K (pt z1) = 41) ∨ yOpn ws1 = 0) → wkB l G (d + 3 + 1) n_X9_expression (wkPV R (fun I' L' => L' = L ∧ yXP sb c0 0 I0 I' ∧ rG T K S N I' L' E)) 145 [.ref 292, .int b, .int 1] [] I1 L R := by
      intro I1 ws1 n1 z1 h1 t1 g1 ha hcl
      have yes : pf z1 = 0 → (K (pt z1) = 43 ∨ K (pt z1) = 45 ∨ K (pt z1) = 42 ∨ K (pt z1) = 47) → wkB l G (d + 3 + 1) n_X9_expression (wkPV R (fun I' L' => L' = L ∧ yXP sb c0 0 I0 I' ∧ rG T K S N I' L' E)) 181 [.ref 292, .int b, .int 1] [] I1 L R := fun f1 hop => w_X9_expression_181 (w_X9_expression_186 (fun _ => go I1 ws1 n1 z1 h1 t1 g1 ha f1 hop) (fun q => absurd q (by decide)))
      refine w_X9_expression_145 (P := fun y I' L' => L' = L ∧ I' = I1 ∧ ((y = 1 ∧ pf z1 = 0 ∧ K (pt z1) = 43) ∨ (y = 0 ∧ ¬ (pf z1 = 0 ∧ K (pt z1) = 43)))) (by rw [← rK_vals.2.2.1]; exact rIs (k := 43) (d := d + 2) hR h1.2.1 g1 (by decide)) (fun y I2 L2 hq => ?_)
      obtain ⟨rfl, rfl, hy⟩ := hq
      rcases hy with ⟨rfl, f1, k1⟩ | ⟨rfl, c1⟩
      · exact w_X9_expression_151 (fun _ => yes f1 (Or.inl k1)) (fun q => absurd q (by decide))
      refine w_X9_expression_151 (fun q => absurd rfl q) (fun _ => w_X9_expression_154 (P := fun y I' L' => L' = L2 ∧ I' = I2 ∧ ((y = 1 ∧ pf z1 = 0 ∧ K (pt z1) = 45) ∨ (y = 0 ∧ ¬ (pf z1 = 0 ∧ K (pt z1) = 45)))) (by rw [← rK_vals.2.2.2.1]; exact rIs (k := 45) (d := d + 2) hR h1.2.1 g1 (by decide)) (fun y I3 L3 hq => ?_))
      obtain ⟨rfl, rfl, hy⟩ := hq
      rcases hy with ⟨rfl, f1, k1⟩ | ⟨rfl, c2⟩
      · exact w_X9_expression_160 (fun _ => yes f1 (Or.inr (Or.inl k1))) (fun q => absurd q (by decide))
      refine w_X9_expression_160 (fun q => absurd rfl q) (fun _ => w_X9_expression_163 (P := fun y I' L' => L' = L3 ∧ I' = I3 ∧ ((y = 1 ∧ pf z1 = 0 ∧ K (pt z1) = 42) ∨ (y = 0 ∧ ¬ (pf z1 = 0 ∧ K (pt z1) = 42)))) (by rw [← rK_vals.2.2.2.2.1]; exact rIs (k := 42) (d := d + 2) hR h1.2.1 g1 (by decide)) (fun y I4 L4 hq => ?_))
      obtain ⟨rfl, rfl, hy⟩ := hq
      rcases hy with ⟨rfl, f1, k1⟩ | ⟨rfl, c3⟩
      · exact w_X9_expression_169 (fun _ => yes f1 (Or.inr (Or.inr (Or.inl k1)))) (fun q => absurd q (by decide))
      refine w_X9_expression_169 (fun q => absurd rfl q) (fun _ => w_X9_expression_172 (P := fun y I' L' => L' = L4 ∧ I' = I4 ∧ ((y = 1 ∧ pf z1 = 0 ∧ K (pt z1) = 47) ∨ (y = 0 ∧ ¬ (pf z1 = 0 ∧ K (pt z1) = 47)))) (by rw [← rK_vals.2.2.2.2.2.1]; exact rIs (k := 47) (d := d + 2) hR h1.2.1 g1 (by decide)) (fun y I5 L5 hq => ?_))
      obtain ⟨rfl, rfl, hy⟩ := hq
      rcases hy with ⟨rfl, f1, k1⟩ | ⟨rfl, c4⟩
      · exact w_X9_expression_178 (fun q => absurd q (by decide)) (fun _ => yes f1 (Or.inr (Or.inr (Or.inr k1))))
      · refine w_X9_expression_178 (fun _ => w_X9_expression_185 (w_X9_expression_186 (fun q => absurd rfl q) (fun _ => stop I5 ws1 n1 z1 h1 t1 g1 ha hcl (fun f1 => ⟨fun x => ?_, fun x => ?_⟩)))) (fun q => absurd rfl q)
        · rcases of_decide_eq_true x with x | x
          · exact c3 ⟨f1, x⟩
          · exact c4 ⟨f1, x⟩
        · rcases of_decide_eq_true x with x | x
          · exact c1 ⟨f1, x⟩
          · exact c2 ⟨f1, x⟩
    refine rOpenLoop (d := d + 1) (tl := (I 292 11).toInt) (T := T) (K := K) (S := S) (N := N) (E := E) hR (fun I1 ws1 z1 h1 t1 g1 hu1 hn1 => ?_) _ I ws z rfl h (Int.le_refl _) g hu
    refine w_X9_expression_84 (rUnit (d := d) (e := 6 - yOpn ws1) hR hsb h1 g1 hn1) (fun I2 L2 hq => ?_)
    obtain ⟨rfl, hq, g2⟩ := hq
    rcases hq with ⟨q1, n2, fl2, h2⟩ | ⟨q1, q2, h2⟩
    · refine w_X9_expression_88 (fun q => ?_) (fun _ => w_X9_expression_95 ⟨rfl, rfl, rfl, rfl, ⟨ws1, n2, fl2, h2, fun x => absurd x q1⟩, ?_⟩)
      · exfalso
        have a := h2.2.1.2.1
        have b' := i_le.mp q
        rw [show (0 : Int32).toInt = 0 from rfl] at b'
        exact q1 (i_eq.mpr (by rw [show (0 : Int32).toInt = 0 from rfl]; omega))
      · unfold rU at hu1
        rw [zAO_f _ (by rw [← g2.2.1]; exact q1)] at hu1
        rw [← hu1]; exact g2
    · refine w_X9_expression_88 (fun _ => ?_) (fun q => absurd (by rw [q1]; decide) q)
      exact rCloseLoop (d := d + 1) (tl := (I 292 11).toInt + 1) (T := T) (K := K) (S := S) (N := N) (E := E) hR hsb hb (fun I3 ws3 n3 z3 h3 t3 g3 a3 c3 => more I3 ws3 n3 z3 h3 t3 g3 a3 c3) _ I2 ws1 (n + 1) _ rfl h2 (by omega) g2 hu1
theorem zEx_f {z : pZ} (h : pf z ≠ 0) : zEx K S z = z := by rw [zEx_AO, zUn_f h, zAO_f _ h]
theorem rExprC (hR : wkR R) (hsb : sb = 0 ∨ sb = 420) {c : Nat} {I : qMI} {z : pZ} (h : yCS sb c I) (g : rG T K S N I L z) : wkV l G (d + 4) n_X9_expression [.ref 292] I L R (fun I' L' => L' = L ∧ yE sb (sb + c) I I' ∧ yM I I' ∧ (∃ c', c ≤ c' ∧ yCS sb c' I' ∧ (I' 292 13 = 0 → (I 292 11).toInt + 1 ≤ (I' 292 11).toInt ∧ zseg I' (I 292 40) (I' 292 40))) ∧ rG T K S N I' L' (zEx K S z)) := by
  obtain ⟨h1, ⟨h2, h3, h4⟩, ⟨h5, h6, h7⟩⟩ := h
  have e12 : (qUp I 292 44 0) 292 12 = I 292 12 := qUp_ne (by omega)
  have f : ∀ j, j ≠ 44 → (qUp I 292 44 0) 292 j = I 292 j := fun j a => qUp_ne (fun q => a q.2)
  have hk1 : yOk (qUp I 292 44 0) := by unfold yOk; rw [f 11 (by decide), f 13 (by decide)]; exact h1
  have key : wkV l G (d + 4) n_X9_expression [.ref 292] I L R (fun I' L' => L' = L ∧ yXP sb (sb + c) (I 292 12).toInt.toNat I I' ∧ rG T K S N I' L' (zEx K S z)) := by
    have hx : yX sb (sb + c) (I 292 12).toInt.toNat I (qUp I 292 44 0) [] 0 0 := by
      refine ⟨yE_f (j := 44) (by omega), hk1, ⟨trivial, ?_, trivial⟩, ⟨?_, by show (I 292 12).toInt.toNat + 0 ≤ 7; omega, fun q => ?_⟩, ⟨?_, fun q => ?_, by show sb + c + 0 + 0 ≤ _; omega⟩, fun _ => yR_0 _ _ _, ?_, ?_⟩
      · rw [qUp_at, if_pos ⟨rfl, rfl⟩]; rfl
      · rw [f 12 (by decide)]; show _ = (((I 292 12).toInt.toNat + 0 : Nat) : Int); omega
      · have := h4 (by rw [← f 13 (by decide)]; exact q)
        show (I 292 12).toInt.toNat + 0 ≤ 6
        omega
      · rw [f 40 (by decide)]; exact h5
      · rw [f 11 (by decide)]
        have := h7 (by rw [← f 13 (by decide)]; exact q)
        show ((sb + c + 0 + 0 : Nat) : Int) ≤ _
        omega
      · rw [f 11 (by decide)]; exact Int.le_refl _
      · rw [f 13 (by decide)]; exact id
    refine wkC_of 2 (by decide) (Nat.le_of_ble_eq_true rfl) (w_X9_expression_0 ?_)
    rw [e12]
    by_cases hf : I 292 13 = 0
    · have hb := h4 hf
      rw [hb] at hx ⊢
      exact rExprLoop (d := d) (E := zEx K S z) hR hsb hb _ _ [] 0 z rfl hx (rG_f (by omega) g) (zEx_AO z).symm
    · refine w_X9_expression_12 (fun q => absurd q (by decide)) (fun _ => w_X9_expression_16 (fun q => w_X9_expression_272 ⟨rfl, rfl, rfl, rfl, ⟨[], 0, 0, hx, fun x => absurd x q⟩, ?_⟩) (fun q => absurd (by rw [← f 13 (by decide)]; exact q) hf))
      rw [zEx_f (by rw [← g.2.1]; exact hf)]
      exact rG_f (by omega) g
  refine wkV.mono key ?_
  intro I' L' hq
  obtain ⟨rfl, ⟨ws, n, fl, hx, hf⟩, hg⟩ := hq
  obtain ⟨x1, x2, ⟨x3, x4, x5⟩, ⟨x6, x7, x8⟩, ⟨x9, x10, x11⟩, x12, x13, x14⟩ := hx
  refine ⟨rfl, x1, ⟨x13, x14⟩, ⟨c + n, by omega, ⟨x2, ⟨by omega, by omega, fun q => ?_⟩, ⟨by rw [x9]; omega, by omega, fun q => ?_⟩⟩, fun q => ⟨by have := (hf q).2.2; omega, fun hlt => ⟨⟨i_le.mpr (by rw [h5, show (0 : Int32).toInt = 0 from rfl]; omega), by omega⟩, ?_⟩⟩⟩, hg⟩
  · obtain ⟨w1, -, -⟩ := hf q
    have w2 := h4 (Decidable.byContradiction fun z => x14 z q)
    subst w1
    have : yOpn [] = 0 := rfl
    omega
  · have := x10 q
    omega
  · have hr := yR_rpn (x12 q)
    rw [x9, h5]
    rw [show (((sb + c + n : Nat) : Int) - ((sb + c : Nat) : Int)).toNat = n by omega, Int.toNat_natCast]
    exact hr
end
