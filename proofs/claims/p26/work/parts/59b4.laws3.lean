section
/-! ===== the class: one thing is told ===== -/
abbrev cTq (o : Nat) (K S : Nat → Int32) (N : Nat → Int64) (I : qMI) (L : qML) (R : qMR) (z : pZ) (A : aD) : qMI → qML → qMR → Prop := fun I' L' R' => cPo o K S N I L R (zTell K S N z) I' L' R' ∧ (pf (zTell K S N z) = 0 → cDt o I' (aTell K S N z A) ∧ (I' (o + 6) 2).toInt ≤ 14 + pt (zTell K S N z))
section
variable {l : Launch} {G : qG} {d : Nat} {I : qMI} {L : qML} {R : qMR} {o : Nat} {z : pZ} {K S : Nat → Int32} {N : Nat → Int64}
theorem zLaw_f (h : pf z ≠ 0) : zLaw K S z = z := by
  unfold zLaw zMust
  rw [zTake_f h, zIfs_f h, zEx_f h]
theorem cTellW (ho : o = 9 ∨ o = 259) (hR : cRf R o) (h : cH o K S N I L z) (hf : pf z = 0) (hp : pOk z) {A : aD} (hd : cDt o I A) (hs : (I (o + 6) 2).toInt ≤ 14 + pt z) : wkCv l G (d + 24) n_X1_takeTell [.ref 3] I L R (cTq o K S N I L R z A) := by
  obtain ⟨-, h4, hz⟩ := cAt h
  obtain ⟨p1, p2, p3⟩ := hp hf
  have ek := (hz hf).2
  obtain ⟨-, -, -, -, n3, n4⟩ := h.2.2.2.2.1 hf
  have l1 : A.1.length = z.2.2.2.1 := by have := hd.1.1.1; omega
  have l2 : A.2.1.length = z.2.2.2.2 := by have := hd.2.1.1.1; omega
  generalize hk : K (pt z) = k at *
  have fin : ∀ (J : qMI) (M : qML) (y : pZ), cF o I L J M → cH o K S N J M y → zMust K S 59 y = zTell K S N z → (pf y = 0 → cDt o J (aTell K S N z A) ∧ (J (o + 6) 2).toInt ≤ 14 + pt y) → wkB l G (d + 23 + 1) n_X1_takeTell (fun r t I' L' R' => t = 336 ∧ r = none ∧ cTq o K S N I L R z A I' L' R') 135 [.ref 3, .int k] [] J M R := by
    intro J M y f g e hD
    have s : ∀ b : Int32, (b = 0 ∨ b = 1) → (pf y = 0 → decide (b = 1) = decide (K (pt y) = 59)) → wkB l G (d + 23 + 1) n_X1_takeTell (fun r t I' L' R' => t = 336 ∧ r = none ∧ cTq o K S N I L R z A I' L' R') 150 [.ref 3, .int k] [.int b, .ref 3] J M R := by
      intro b hb hc
      refine w_X1_takeTell_150 (cTakeW (d := d + 22) ho hR g hb hc) (fun I1 L1 R1 hq => ?_)
      obtain ⟨⟨rfl, f1, g1⟩, m1⟩ := hq
      refine w_X1_takeTell_153 ⟨rfl, rfl, ⟨rfl, cF_tr f f1, ?_⟩, fun q => ?_⟩
      · rw [← e]
        exact g1
      · rw [← e] at q ⊢
        obtain ⟨q1, q2, -⟩ := zMust_pg (fun w => cH_4 g w) q
        obtain ⟨d1, d2⟩ := hD q1
        have sz := cEm_sz g g1 m1
        rw [List.length_nil] at sz
        exact ⟨cDt_em m1 d1, by omega⟩
    exact w_X1_takeTell_135 (fun q => w_X1_takeTell_149 (s 0 (Or.inl rfl) (fun hf => cMustN g hf q))) (fun q => w_X1_takeTell_145 (s 1 (Or.inr rfl) (fun hf => cMustB g hf q)))
  have mid : ∀ (J : qMI) (M : qML) (y : pZ), cF o I L J M → cH o K S N J M y → y = (if (k = 128 ∧ 6 ≤ z.2.2.2.1) ∨ (k = 129 ∧ 6 ≤ z.2.2.2.2) then zFail S 2 z else z) → cEm o I J [] → wkB l G (d + 23 + 1) n_X1_takeTell (fun r t I' L' R' => t = 336 ∧ r = none ∧ cTq o K S N I L R z A I' L' R') 48 [.ref 3, .int k] [] J M R := by
    intro J M y f g ey mJ
    have s : ∀ b : Int32, (b = 0 ∨ b = 1) → decide (b = 1) = decide (128 ≤ k ∧ k ≤ 138) → wkB l G (d + 23 + 1) n_X1_takeTell (fun r t I' L' R' => t = 336 ∧ r = none ∧ cTq o K S N I L R z A I' L' R') 68 [.ref 3, .int k] [.int b, .ref 3] J M R := by
      intro b hb hc
      refine w_X1_takeTell_68 (cTakeW (d := d + 22) ho hR g hb (fun _ => hc)) (fun I1 L1 R1 hq => ?_)
      obtain ⟨⟨rfl, f1, g1⟩, m1⟩ := hq
      generalize hy2 : zTake S (decide (128 ≤ k ∧ k ≤ 138)) y = y2 at g1
      have ez : zTell K S N z = zMust K S 59 (if k = 128 then zStand K S N true y2 else if k = 129 then zStand K S N false y2 else if 130 ≤ k ∧ k < 135 then zLaw K S y2 else zSet K S N k y2) := by
        rw [← hy2, ey]
        unfold zTell
        rw [hk]
      have y22 : y2.2 = z.2 := by
        rw [← hy2, zTake_2, ey]
        split
        · exact zFail_2
        · rfl
      have y2f : pf y2 = 0 → ¬ ((k = 128 ∧ 6 ≤ z.2.2.2.1) ∨ (k = 129 ∧ 6 ≤ z.2.2.2.2)) := fun q c => by
        rw [← hy2] at q
        have q := zTake_0 q
        rw [ey, if_pos c] at q
        unfold zFail at q
        rw [if_pos hf] at q
        exact absurd (show (2 : Int32) = 0 from q) (by decide)
      have mI : cEm o I I1 [] := cEm_tr mJ m1
      have sI := cEm_sz h g1 mI
      rw [List.length_nil] at sI
      have dI : cDt o I1 A := cDt_em mI hd
      -- where it stands behind the first token
      have y2t : pf y2 = 0 → y2 = zTake S true z ∧ pt y2 = pt z + 1 := fun q => by
        have n0 := y2f q
        have ey : y = z := by rw [ey, if_neg n0]
        have e2 : zTake S (decide (128 ≤ k ∧ k ≤ 138)) z = y2 := by rw [← hy2, ey]
        have hdec : decide (128 ≤ k ∧ k ≤ 138) = true := by
          cases hdc : decide (128 ≤ k ∧ k ≤ 138) with
          | true => rfl
          | false =>
            rw [hdc] at e2
            rw [← e2] at q
            unfold zTake at q
            rw [if_pos hf, if_neg (by decide)] at q
            exact absurd (show (1 : Int32) = 0 from q) (by decide)
        rw [hdec] at e2
        rw [← e2] at q ⊢
        exact ⟨rfl, (zTake_pg (fun w => cH_4 h w) q).2.1⟩
      have stand : ∀ c : Int32, (c = 0 ∨ c = 1) → ((c = 1 ∧ k = 128) ∨ (c = 0 ∧ k = 129)) → wkB l G (d + 23 + 1) n_X1_takeTell (fun r t I' L' R' => t = 336 ∧ r = none ∧ cTq o K S N I L R z A I' L' R') 98 [.ref 3, .int k] [.int c, .ref 3] I1 L1 R := by
        intro c hc0 hc1
        refine w_X1_takeTell_98 (cStandW (d := d + 20) ho hR g1 hc0 (fun q => ?_)) (fun I2 L2 R2 hq => ?_)
        · rw [y22]
          have nn := y2f q
          rcases hc1 with ⟨rfl, e⟩ | ⟨rfl, e⟩
          · have : ¬ 6 ≤ z.2.2.2.1 := fun w => nn (Or.inl ⟨e, w⟩)
            exact ⟨by omega, fun _ => by omega, fun w => absurd w (by decide)⟩
          · have : ¬ 6 ≤ z.2.2.2.2 := fun w => nn (Or.inr ⟨e, w⟩)
            exact ⟨by omega, fun w => absurd w (by decide), fun _ => by omega⟩
        · obtain ⟨⟨rfl, f2, g2⟩, m2⟩ := hq
          refine w_X1_takeTell_101 (fin I2 L2 _ (cF_tr f (cF_tr f1 f2)) g2 ?_ (fun q => ?_))
          · rw [ez]
            rcases hc1 with ⟨rfl, e⟩ | ⟨rfl, e⟩
            · rw [if_pos e]; rfl
            · rw [if_neg (by rw [e]; decide), if_pos e]; rfl
          · obtain ⟨⟨k1, k2⟩, k3⟩ := m2 q
            have q2 : pf y2 = 0 := by
              refine Decidable.byContradiction fun n => ?_
              rw [zStand_f n] at q
              exact n q
            have nn := y2f q2
            obtain ⟨-, t2⟩ := y2t q2
            rw [t2] at k1 k2 k3
            have hlen : (cCd o I2).length = (cCd o I1).length := by
              rcases hc1 with ⟨rfl, e⟩ | ⟨rfl, e⟩
              · rw [(k1 rfl).1]
              · rw [(k2 rfl).1]
            rw [cCd_len, cCd_len] at hlen
            have b1 := (cH_b g1).2
            have b2 := (cH_b g2).2
            refine ⟨?_, by omega⟩
            unfold aTell
            rw [hk]
            rcases hc1 with ⟨rfl, e⟩ | ⟨rfl, e⟩
            · have : ¬ 6 ≤ z.2.2.2.1 := fun w => nn (Or.inl ⟨e, w⟩)
              rw [if_pos e]
              exact cDt_th (k1 rfl) dI (by omega)
            · have : ¬ 6 ≤ z.2.2.2.2 := fun w => nn (Or.inr ⟨e, w⟩)
              rw [if_neg (by rw [e]; decide), if_pos e]
              exact cDt_se (k2 rfl) dI (by omega)
      have set : ¬ k = 128 → ¬ k = 129 → ¬ (130 ≤ k ∧ k < 135) → wkB l G (d + 23 + 1) n_X1_takeTell (fun r t I' L' R' => t = 336 ∧ r = none ∧ cTq o K S N I L R z A I' L' R') 130 [.ref 3, .int k] [] I1 L1 R := by
        intro c1 c2 c3
        refine w_X1_takeTell_130 (cSetW (d := d + 20) ho hR g1) (fun I2 L2 R2 hq => ?_)
        obtain ⟨⟨rfl, f2, g2⟩, m2⟩ := hq
        refine fin I2 L2 _ (cF_tr f (cF_tr f1 f2)) g2 (by rw [ez, if_neg c1, if_neg c2, if_neg c3]) (fun q => ?_)
        obtain ⟨k1, k2, k3⟩ := m2 q
        have q2 : pf y2 = 0 := by
          refine Decidable.byContradiction fun n => ?_
          rw [zSet_f n] at q
          exact n q
        obtain ⟨-, t2⟩ := y2t q2
        have hlen := congrArg List.length k1.1
        rw [cCd_len, cCd_len] at hlen
        have b1 := (cH_b g1).2
        have b2 := (cH_b g2).2
        refine ⟨?_, by omega⟩
        unfold aTell
        rw [hk, if_neg c1, if_neg c2, if_neg c3]
        rw [t2] at k1
        exact cDt_sg k3 k1 dI
      refine w_X1_takeTell_71 (fun q => w_X1_takeTell_85 (fun q2 => absurd q q2) (fun _ => w_X1_takeTell_93 (stand 1 (Or.inr rfl) (Or.inl ⟨rfl, q⟩)))) (fun q => w_X1_takeTell_78 (fun q2 => ?_) (fun q2 => w_X1_takeTell_85 (fun _ => w_X1_takeTell_97 (stand 0 (Or.inl rfl) (Or.inr ⟨rfl, q2⟩))) (fun q3 => absurd q3 q)))
      refine w_X1_takeTell_104 (fun q3 => set q q2 (fun w => absurd q3 (Int32.not_lt.mpr w.1))) (fun q3 => w_X1_takeTell_111 (fun q4 => set q q2 (fun w => absurd w.2 (Int32.not_lt.mpr q4))) (fun q4 => ?_))
      have hk3 : 130 ≤ k ∧ k < 135 := ⟨Int32.not_lt.mp q3, Int32.not_le.mp q4⟩
      have ka : (k - 130).toInt = k.toInt - 130 ∧ 130 ≤ k.toInt ∧ k.toInt < 135 := by
        have a1 := i_le.mp hk3.1
        have a2 := i_lt.mp hk3.2
        rw [show (130 : Int32).toInt = 130 from rfl] at a1
        rw [show (135 : Int32).toInt = 135 from rfl] at a2
        exact ⟨by rw [i_sub (y := 130) (by rw [show (130 : Int32).toInt = 130 from rfl]; omega) (by rw [show (130 : Int32).toInt = 130 from rfl]; omega)]; rfl, a1, a2⟩
      refine w_X1_takeTell_118 (cLawW (d := d) ho hR g1 (by omega) (fun w => by have := (y2t w).2; omega)) (fun I2 L2 R2 hq => ?_)
      obtain ⟨⟨rfl, f2, g2⟩, m2⟩ := hq
      refine w_X1_takeTell_127 (fin I2 L2 _ (cF_tr f (cF_tr f1 f2)) g2 (by rw [ez, if_neg q, if_neg q2, if_pos hk3]) (fun w => ?_))
      obtain ⟨k1, k2⟩ := m2 w
      have w2 : pf y2 = 0 := by
        refine Decidable.byContradiction fun n => ?_
        rw [zLaw_f n] at w
        exact n w
      obtain ⟨t1, t2⟩ := y2t w2
      refine ⟨?_, k2⟩
      unfold aTell
      rw [hk, if_neg q, if_neg q2, if_pos hk3, ← t1]
      exact cDt_lg (by omega) (cH_b g1).2.1 k1 dI
    exact w_X1_takeTell_48 (fun q => w_X1_takeTell_67 (s 0 (Or.inl rfl) (by rw [decide_eq_false (fun w : 128 ≤ k ∧ k ≤ 138 => absurd q (Int32.not_lt.mpr w.1))]; rfl))) (fun q => w_X1_takeTell_56 (fun q2 => w_X1_takeTell_67 (s 0 (Or.inl rfl) (by rw [decide_eq_false (fun w : 128 ≤ k ∧ k ≤ 138 => absurd q2 (Int32.not_lt.mpr w.2))]; rfl))) (fun q2 => w_X1_takeTell_63 (s 1 (Or.inr rfl) (by rw [decide_eq_true (show 128 ≤ k ∧ k ≤ 138 from ⟨Int32.not_lt.mp q, Int32.not_lt.mp q2⟩)]; rfl))))
  have bad : ((k = 128 ∧ 6 ≤ z.2.2.2.1) ∨ (k = 129 ∧ 6 ≤ z.2.2.2.2)) → wkB l G (d + 23 + 1) n_X1_takeTell (fun r t I' L' R' => t = 336 ∧ r = none ∧ cTq o K S N I L R z A I' L' R') 43 [.ref 3, .int k] [] I L R := fun c => by
    refine w_X1_takeTell_43 (cFailW (d := d + 22) ho hR h (by decide)) (fun I1 L1 R1 hq => ?_)
    obtain ⟨⟨rfl, f1, g1⟩, m1⟩ := hq
    exact mid I1 L1 _ f1 g1 (by rw [if_pos c]) m1
  have ok : ¬ ((k = 128 ∧ 6 ≤ z.2.2.2.1) ∨ (k = 129 ∧ 6 ≤ z.2.2.2.2)) → wkB l G (d + 23 + 1) n_X1_takeTell (fun r t I' L' R' => t = 336 ∧ r = none ∧ cTq o K S N I L R z A I' L' R') 48 [.ref 3, .int k] [] I L R := fun c => mid I L z (cF_rf o I L) h (by rw [if_neg c]) (cEm_rf o I)
  refine wkC_of 1 (by decide) (Nat.le_of_ble_eq_true rfl) ?_
  have w0 := @w_X1_takeTell_0 l G (d + 23) (fun r t I' L' R' => t = 336 ∧ r = none ∧ cTq o K S N I L R z A I' L' R') I L R
  rw [ek] at w0
  have at24 : ¬ k = 128 ∨ ¬ 6 ≤ z.2.2.2.1 → wkB l G (d + 23 + 1) n_X1_takeTell (fun r t I' L' R' => t = 336 ∧ r = none ∧ cTq o K S N I L R z A I' L' R') 24 [.ref 3, .int k] [] I L R := fun c => by
    refine w_X1_takeTell_24 (fun q => ok (fun w => ?_)) (fun q => w_X1_takeTell_31 ho hR.1.2 (fun q2 => ok (fun w => ?_)) (fun q2 => bad (Or.inr ⟨q, ?_⟩)))
    · rcases w with w | w
      · rcases c with c | c
        · exact c w.1
        · exact c w.2
      · exact q w.1
    · have q2 := i_lt.mp q2
      rw [show (6 : Int32).toInt = 6 from rfl] at q2
      rcases w with w | w
      · rw [q] at w; exact absurd w.1 (by decide)
      · omega
    · have q2 : ¬ _ := fun w => q2 (i_lt.mpr w)
      rw [show (6 : Int32).toInt = 6 from rfl] at q2
      omega
  refine w0 (fun q => at24 (Or.inl q)) (fun q => w_X1_takeTell_12 ho hR.1.2 (fun q2 => bad (Or.inl ⟨q, ?_⟩)) (fun q2 => at24 (Or.inr (fun w => q2 (i_le.mpr (by rw [show (6 : Int32).toInt = 6 from rfl]; omega))))))
  have q2 := i_le.mp q2
  rw [show (6 : Int32).toInt = 6 from rfl] at q2
  omega
end
end
section
/-! ===== the class: a flat anew ===== -/
/-- the steps so far, where laws begin, all else as it was -/
def cCl (o : Nat) (I0 J : qMI) (w : pC) (f : Nat → Option Nat) : Prop := (cCd o J = w ∧ (J (o + 6) 2).toInt = w.length) ∧ (∀ k j, cIn o k j → k ≠ o + 9 → J k j = I0 k j) ∧ ∀ k v, f k = some v → k < 5 → J (o + 9) k = Int32.ofNat v
section
variable {l : Launch} {G : qG} {d : Nat} {I0 J : qMI} {L : qML} {R : qMR} {o : Nat} {w : pC} {f : Nat → Option Nat}
theorem cEmit4 (ho : o = 9 ∨ o = 259) (hR : cRf R o) (h : cCl o I0 J w f) (hw : w.length < 400) {a b : Int32} : wkCi l G (d + 1) n_X2_emit [.ref (o + 6), .int a, .int b] J L R (fun _ J' _ R' => R' = R ∧ cCl o I0 J' (w ++ [(a, b)]) f) := by
  obtain ⟨⟨h1, h2⟩, h3, h4⟩ := h
  refine wkCi.mono (wkCi_and (cEmit0 (d := d) ho hR (by omega)) (cEmit3 ho hR (by omega))) (fun y J' L' R' hq => ?_)
  obtain ⟨⟨e1, -, -⟩, J2, L2, R2, ⟨m, hb, -⟩, sm⟩ := hq
  have m : cEm o J J' [(a, b)] := cEm_sm ho sm hb m
  have hl := congrArg List.length m.1
  rw [List.length_append, cCd_len, cCd_len, List.length_singleton] at hl
  refine ⟨e1.symm, ⟨by rw [m.1, h1], by rw [List.length_append, List.length_singleton]; omega⟩, fun k j q n => by rw [m.2 k j q]; exact h3 k j q n, fun k v q hk => by rw [m.2 (o + 9) k (Or.inr (Or.inr ⟨rfl, hk⟩))]; exact h4 k v q hk⟩
theorem cOpen4 (ho : o = 9 ∨ o = 259) (hR : cRf R o) (h : cCl o I0 J w f) (hw : w.length < 400) {a : Int32} (ha : 0 ≤ a.toInt ∧ a.toInt < 5) : wkCv l G (d + 1) n_X2_open [.ref (o + 6), .int a] J L R (fun J' _ R' => R' = R ∧ cCl o I0 J' w (fun k => if k = a.toInt.toNat then some w.length else f k)) := by
  obtain ⟨⟨h1, h2⟩, h3, h4⟩ := h
  refine wkCv.mono (wkCv_and (cOpen0 (d := d) ho hR (by omega)) (cOpen3 ho hR ha)) (fun J' L' R' hq => ?_)
  obtain ⟨⟨e1, -, -⟩, J2, L2, R2, ⟨k1, k2⟩, sm⟩ := hq
  have h6 : J2 (o + 6) = J (o + 6) := k1 (o + 6) (by omega)
  have m : cEm o J2 J' [] := cEm_sm ho sm (by rw [h6]; omega) (cEm_rf o J2)
  have e2 : cCd o J2 = cCd o J := cCd_cg (by rw [h6]) (fun i _ => ⟨by rw [k1 (o + 7) (by omega)], by rw [k1 (o + 8) (by omega)]⟩)
  have e3 : cCd o J' = w := by rw [m.1, List.append_nil, e2, h1]
  have sz : (J' (o + 6) 2).toInt = w.length := by
    have s6 := (qShO ho).1.2
    rw [sm.2.2 (o + 6) (by omega) (by omega) 2 (by rw [s6]; decide) (by rw [s6]; decide +kernel), h6]
    exact h2
  refine ⟨e1.symm, ⟨e3, sz⟩, fun k j q n => by rw [m.2 k j q, k1 k n]; exact h3 k j q n, fun k v q hk => ?_⟩
  rw [m.2 (o + 9) k (Or.inr (Or.inr ⟨rfl, hk⟩)), k2]
  have q : (if k = a.toInt.toNat then some w.length else f k) = some v := q
  unfold tU
  by_cases e : k = a.toInt.toNat
  · rw [if_pos e] at q ⊢
    injection q with q
    rw [← q]
    exact i_nat h2
  · rw [if_neg e] at q ⊢
    exact h4 k v q hk
theorem cOWV4 (ho : o = 9 ∨ o = 259) (hR : cRf R o) (h : cCl o I0 J w f) (hw : w.length < 300) {a b : Int32} (ha : 0 ≤ a.toInt ∧ a.toInt < 5) : wkCv l G (d + 2) n_X2_openWithVar [.ref (o + 6), .int a, .int b] J L R (fun J' _ R' => R' = R ∧ cCl o I0 J' (w ++ [(1, b), (7, 0)]) (fun k => if k = a.toInt.toNat then some w.length else f k)) := by
  refine wkC_of 0 (by decide) (Nat.le_of_ble_eq_true rfl) (w_X2_openWithVar_0 ho (cOpen4 (d := d) ho hR h (by omega) ha) (fun I1 L1 R1 hq => ?_))
  obtain ⟨rfl, h1⟩ := hq
  refine w_X2_openWithVar_5 ho (cEmit4 (d := d) ho hR h1 (by omega)) (fun y I2 L2 R2 hq => ?_)
  obtain ⟨rfl, h2⟩ := hq
  refine w_X2_openWithVar_11 ho (cEmit4 (d := d) ho hR h2 (by rw [List.length_append, List.length_singleton]; omega)) (fun y I3 L3 R3 hq => ?_)
  obtain ⟨rfl, h3⟩ := hq
  rw [List.append_assoc] at h3
  exact w_X2_openWithVar_19 ho ⟨rfl, rfl, rfl, h3⟩
def cC0 : pC := [(1, 0), (7, 0), (1, 2), (1, 3), (3, 0), (7, 0), (0, 0), (7, 0), (1, 4), (7, 0), (0, 0), (7, 0)]
theorem cLclear4 (ho : o = 9 ∨ o = 259) (hR : cRf R o) : wkCv l G (d + 3) n_X2_clear [.ref (o + 6)] J L R (fun J' _ R' => R' = R ∧ ∃ f : Nat → Option Nat, cCl o J J' cC0 f ∧ f 0 = some 0 ∧ f 1 = some 2 ∧ f 2 = some 6 ∧ f 3 = some 8 ∧ f 4 = some 10) := by
  have h0 : cCl o J (qUp J (o + 6) 2 0) [] (fun _ => none) := by
    have e : (qUp J (o + 6) 2 0) (o + 6) 2 = 0 := by rw [qUp_at, if_pos ⟨rfl, rfl⟩]
    refine ⟨⟨?_, by rw [e]; rfl⟩, fun k j q n => ?_, fun k v q => by cases q⟩
    · unfold cCd
      rw [e]
      rfl
    · rw [qUp_ro (by unfold cIn at q; omega)]
  refine wkC_of 0 (by decide) (Nat.le_of_ble_eq_true rfl) (w_X2_clear_0 ho (cOWV4 (d := d) ho hR h0 (by decide) (by decide)) (fun I1 L1 R1 hq => ?_))
  obtain ⟨rfl, h1⟩ := hq
  refine w_X2_clear_11 ho (cOpen4 (d := d + 1) ho hR h1 (by decide) (by decide)) (fun I2 L1 R1 hq => ?_)
  obtain ⟨rfl, h2⟩ := hq
  refine w_X2_clear_16 ho (cEmit4 (d := d + 1) ho hR h2 (by decide)) (fun y I3 L1 R1 hq => ?_)
  obtain ⟨rfl, h3⟩ := hq
  refine w_X2_clear_22 ho (cEmit4 (d := d + 1) ho hR h3 (by simp)) (fun y I4 L1 R1 hq => ?_)
  obtain ⟨rfl, h4⟩ := hq
  refine w_X2_clear_29 ho (cEmit4 (d := d + 1) ho hR h4 (by simp)) (fun y I5 L1 R1 hq => ?_)
  obtain ⟨rfl, h5⟩ := hq
  refine w_X2_clear_36 ho (cEmit4 (d := d + 1) ho hR h5 (by simp)) (fun y I6 L1 R1 hq => ?_)
  obtain ⟨rfl, h6⟩ := hq
  refine w_X2_clear_44 ho (cOpen4 (d := d + 1) ho hR h6 (by simp) (by decide)) (fun I7 L1 R1 hq => ?_)
  obtain ⟨rfl, h7⟩ := hq
  refine w_X2_clear_50 ho (cEmit4 (d := d + 1) ho hR h7 (by simp)) (fun y I8 L1 R1 hq => ?_)
  obtain ⟨rfl, h8⟩ := hq
  refine w_X2_clear_56 ho (cEmit4 (d := d + 1) ho hR h8 (by simp)) (fun y I9 L1 R1 hq => ?_)
  obtain ⟨rfl, h9⟩ := hq
  refine w_X2_clear_64 ho (cOWV4 (d := d) ho hR h9 (by simp) (by decide)) (fun IA L1 R1 hq => ?_)
  obtain ⟨rfl, hA⟩ := hq
  refine w_X2_clear_71 ho (cOpen4 (d := d + 1) ho hR hA (by simp) (by decide)) (fun IB L1 R1 hq => ?_)
  obtain ⟨rfl, hB⟩ := hq
  refine w_X2_clear_76 ho (cEmit4 (d := d + 1) ho hR hB (by simp)) (fun y IC L1 R1 hq => ?_)
  obtain ⟨rfl, hC⟩ := hq
  refine w_X2_clear_82 ho (cEmit4 (d := d + 1) ho hR hC (by simp)) (fun y ID L1 R1 hq => ?_)
  obtain ⟨rfl, hD⟩ := hq
  exact w_X2_clear_90 ho ⟨rfl, rfl, rfl, _, hD, rfl, rfl, rfl, rfl, rfl⟩
def aD0 : aD := ([], [], (fun j => if j = 8 then 24 else 0), aLaw0)
theorem cFclear4 (ho : o = 9 ∨ o = 259) (hR : cRf R o) : wkCv l G (d + 4) n_X0_clear [.ref o] J L R (fun J' _ _ => cDt o J' aD0 ∧ (J' (o + 6) 2).toInt = 12) := by
  refine wkC_of 0 (by decide) (Nat.le_of_ble_eq_true rfl) (w_X0_clear_0 ho hR.2.2.1.2.2.2.2.2 (cLclear4 (d := d) ho hR) (fun I1 L1 R1 hq => ?_))
  obtain ⟨rfl, f, ⟨⟨h1, h2⟩, h3, h4⟩, f0, f1, f2, f3, f4⟩ := hq
  have s : ∀ j, (j = 2 ∨ j = 5 ∨ (8 ≤ j ∧ j ≤ 11)) → I1 o j = if j = 8 then 24 else 0 := fun j q => by
    rw [h3 o j (Or.inl ⟨rfl, q⟩) (by omega)]
    rcases (show j = 2 ∨ j = 5 ∨ j = 8 ∨ j = 9 ∨ j = 10 ∨ j = 11 by omega) with rfl | rfl | rfl | rfl | rfl | rfl <;> simp [qUp_at]
  refine w_X0_clear_43 ho ⟨rfl, rfl, ⟨⟨⟨by rw [s 2 (Or.inl rfl)]; rfl, by decide⟩, fun i p q => by cases q⟩, ⟨⟨by rw [s 5 (Or.inr (Or.inl rfl))]; rfl, by decide⟩, fun i p q => by cases q⟩, fun j a b => s j (Or.inr (Or.inr ⟨a, b⟩)), fun k hk => ?_⟩, h2⟩
  rcases (show k = 0 ∨ k = 1 ∨ k = 2 ∨ k = 3 ∨ k = 4 by omega) with rfl | rfl | rfl | rfl | rfl
  · exact ⟨[], _, h1.trans rfl, h4 0 0 f0 (by decide)⟩
  · exact ⟨[(1, 0), (7, 0)], _, h1.trans rfl, h4 1 2 f1 (by decide)⟩
  · exact ⟨[(1, 0), (7, 0), (1, 2), (1, 3), (3, 0), (7, 0)], _, h1.trans rfl, h4 2 6 f2 (by decide)⟩
  · exact ⟨[(1, 0), (7, 0), (1, 2), (1, 3), (3, 0), (7, 0), (0, 0), (7, 0)], _, h1.trans rfl, h4 3 8 f3 (by decide)⟩
  · exact ⟨[(1, 0), (7, 0), (1, 2), (1, 3), (3, 0), (7, 0), (0, 0), (7, 0), (1, 4), (7, 0)], [], h1.trans rfl, h4 4 10 f4 (by decide)⟩
end
end
section
/-! ===== the class: a text is read, and what it tells ===== -/
section
variable {l : Launch} {G : qG} {d : Nat} {I : qMI} {L : qML} {R : qMR} {o : Nat}
theorem cParseW (ho : o = 9 ∨ o = 259) (hR : cRf R o) (hR1 : R 1 0 = some 2) (hs0 : 0 ≤ (I 1 1).toInt) (hs : (I 1 1).toInt ≤ 2000) : wkCi l G (d + 25) n_X1_parse [.ref 3, .ref 1] I L R (fun y I' L' R' => R = R' ∧ ∃ (K S : Nat → Int32) (N : Nat → Int64), (∀ j, j < 401 → K j = pKd (L 5) (cBy I) (cSz I) (pSt (cBy I) (cSz I) j) ∧ (S j).toInt = pSt (cBy I) (cSz I) j ∧ (pSt (cBy I) (cSz I) j < cSz I → (pLe (cBy I (pSt (cBy I) (cSz I) j)) = true ∨ pDi (cBy I (pSt (cBy I) (cSz I) j)) = true) → N j = pVl (cBy I) (cSz I) (pSt (cBy I) (cSz I) j))) ∧ cPf o I L I' L' ∧ cBd o I' ∧ (0 ≤ (I' 3 2).toInt ∧ (I' 3 2).toInt ≤ 400) ∧ (0 ≤ (I' 4 4).toInt ∧ (I' 4 4).toInt ≤ 2000) ∧ y = zAns (zText K S N) ∧ I' 3 5 = zPlc (zText K S N) ∧ (pf (zText K S N) = 0 → cDt o I' (aAll K S N 401 ((0, 0, 0), (0, 0), [], 0, 0) aD0))) := by
  have hcs : cSz I = (I 1 1).toInt.toNat := rfl
  refine wkC_of 1 (by decide) (Nat.le_of_ble_eq_true rfl) (w_X1_parse_0 ho hR.1.2 (wkCv_and (cFclear (d := d + 20) ho hR) (cFclear4 (d := d + 20) ho hR)) (fun I1 L1 R1 hq => ?_))
  obtain ⟨⟨rfl, rfl, a1, ⟨a2, a3, a4⟩, a5, a6, a7⟩, J1, M1, S1, ⟨dt1, sz1⟩, sm1⟩ := hq
  have em1 : cEm o J1 I1 [] := cEm_sm ho sm1 (by omega) (cEm_rf o J1)
  have dt1 : cDt o I1 aD0 := cDt_em em1 dt1
  have sz1 : (I1 (o + 6) 2).toInt = 12 := by
    have s6 := (qShO ho).1.2
    rw [sm1.2.2 (o + 6) (by omega) (by omega) 2 (by rw [s6]; decide) (by rw [s6]; decide +kernel)]
    exact sz1
  have u3 : ∀ k, k ≠ 3 → (qUp (qUp (qUp (qUp I 3 4 0) 3 5 (-1)) 3 6 0) 3 7 (-1)) k = I k := fun k q => by rw [up3 q, up3 q, up3 q, up3 q]
  have b1 : I1 1 1 = I 1 1 := by rw [a1 1 (by omega), u3 1 (by decide)]
  have b2 : cBy I1 = cBy I := funext fun i => by unfold cBy; rw [a1 2 (by omega), u3 2 (by decide)]
  have b3 : cSz I1 = cSz I := by unfold cSz; rw [b1]
  refine w_X1_parse_27 hR.1.1 (cScan (d := d + 19) hR1 hR.2.1 (by rw [b1]; exact hs0) (by rw [b1]; exact hs)) (fun I2 L2 R2 hq => ?_)
  obtain ⟨rfl, ⟨⟨c1, c2⟩, c3, c4⟩, c5⟩ := hq
  rw [b2, b3] at c4 c5
  have i3 : ∀ j, I2 3 j = (qUp (qUp (qUp (qUp I 3 4 0) 3 5 (-1)) 3 6 0) 3 7 (-1)) 3 j := fun j => by rw [c1 3 (by decide) (by decide) (by decide), a1 3 (by omega)]
  have io : ∀ k, o ≤ k → k ≤ o + 9 → I2 k = I1 k := fun k q1 q2 => c1 k (by omega) (by omega) (by omega)
  have f34 : I2 3 4 = 0 := by rw [i3, qUp_ne (by omega), qUp_ne (by omega), qUp_ne (by omega), qUp_at, if_pos ⟨rfl, rfl⟩]
  have f35 : I2 3 5 = -1 := by rw [i3, qUp_ne (by omega), qUp_ne (by omega), qUp_at, if_pos ⟨rfl, rfl⟩]
  have f36 : I2 3 6 = 0 := by rw [i3, qUp_ne (by omega), qUp_at, if_pos ⟨rfl, rfl⟩]
  have e32 : (qUp I2 3 2 0) 3 2 = 0 := by rw [qUp_at, if_pos ⟨rfl, rfl⟩]
  have e6 : (qUp I2 3 2 0) 6 = I2 6 := up3 (by decide)
  refine w_X1_parse_35 hR.1.1 hR.2.1.2.1 (by rw [e32]; exact vin (by decide) (by decide)) ?_
  rw [e32, e6]
  generalize hJ : qUp (qUp I2 3 2 0) 3 3 (I2 6 (0 : Int32).toNatClampNeg) = J
  have j3 : ∀ k, k ≠ 3 → J k = I2 k := fun k q => by rw [← hJ, up3 q, up3 q]
  have jb : cBd o J := by
    unfold cBd
    rw [j3 o (by omega), j3 (o + 6) (by omega), io o (by omega) (by omega), io (o + 6) (by omega) (by omega), a2, a3, a4]
    exact ⟨by decide, by decide, by decide, a5⟩
  have j0 : cH o (I2 6) (I2 7) (L2 8) J L2 ((0, 0, 0), (0, 0), [], 0, 0) := by
    refine ⟨⟨j3 6 (by decide), j3 7 (by decide), rfl⟩, ?_, ?_, fun q => absurd rfl q, fun _ => ⟨⟨?_, ?_⟩, ⟨?_, fun q => absurd rfl q, ?_⟩, trivial, ?_, ?_, ?_⟩, jb⟩
    · rw [← hJ, qUp_ne (by omega), e32]; decide
    · rw [← hJ, qUp_ne (by omega), qUp_ne (by omega)]; exact f34
    · rw [← hJ, qUp_ne (by omega), e32]; rfl
    · rw [j3 6 (by decide), ← hJ, qUp_at, if_pos ⟨rfl, rfl⟩]; rfl
    · rw [← hJ, qUp_ne (by omega), qUp_ne (by omega)]; exact f36
    · rw [← hJ, qUp_ne (by omega), qUp_ne (by omega)]; exact f35
    · rw [j3 o (by omega), io o (by omega) (by omega), a2]; rfl
    · rw [j3 o (by omega), io o (by omega) (by omega), a3]; rfl
    · rw [j3 o (by omega), io o (by omega) (by omega), a4]; rfl
  have jo : ∀ k, o ≤ k → k ≤ o + 9 → J k = I1 k := fun k q1 q2 => by rw [j3 k (by omega), io k q1 q2]
  have emJ : cEm o I1 J [] := by
    refine ⟨?_, fun k j q => by rw [jo k (by unfold cIn at q; omega) (by unfold cIn at q; omega)]⟩
    rw [List.append_nil]
    exact cCd_cg (by rw [jo (o + 6) (by omega) (by omega)]) (fun i _ => ⟨by rw [jo (o + 7) (by omega) (by omega)], by rw [jo (o + 8) (by omega) (by omega)]⟩)
  have dtJ : cDt o J aD0 := cDt_em emJ dt1
  have szJ : (J (o + 6) 2).toInt = 12 := by rw [jo (o + 6) (by omega) (by omega)]; exact sz1
  -- the frame, from what comes behind
  have fr : ∀ (I' : qMI) (L' : qML), cF o J L2 I' L' → cPf o I L I' L' := fun I' L' f => by
    refine ⟨fun k q1 q2 q3 q4 q5 => ?_, fun j q => ?_, fun j q => ?_, fun k q1 q2 => ?_, fun j q => ?_, fun j q => ?_⟩
    · rw [f.1 k q1 q5, j3 k q1, c1 k q2 q3 q4, a1 k q5, u3 k q1]
    · rw [f.2.1 j q, ← hJ, qUp_ne (by omega), qUp_ne (by omega), i3, qUp_ne (by omega), qUp_ne (by omega), qUp_ne (by omega), qUp_ne (by omega)]
    · rw [f.1 4 (by decide) (by omega), j3 4 (by decide), c2 j q, a1 4 (by omega), u3 4 (by decide)]
    · rw [f.2.2.1 k q2, c3 k q1]
    · rw [(f.2.2.2 j (by omega)).1 q, j3 o (by omega), io o (by omega) (by omega), a6 j q, u3 o (by omega)]
    · rw [(f.2.2.2 j (by omega)).2 q, j3 (o + 6) (by omega), io (o + 6) (by omega) (by omega), a7 j q, u3 (o + 6) (by omega)]
  have nx : ∀ (I' : qMI) (L' : qML), cF o J L2 I' L' → 0 ≤ (I' 4 4).toInt ∧ (I' 4 4).toInt ≤ 2000 := fun I' L' f => by
    rw [f.1 4 (by decide) (by omega), j3 4 (by decide)]
    have := pPo_le (cBy I) (cSz I) 401
    rw [c5]
    omega
  have fin : ∀ (I' : qMI) (L' : qML) (z : pZ) (a : Int32), cF o J L2 I' L' → cH o (I2 6) (I2 7) (L2 8) I' L' z → (pf z = 0 → cDt o I' (aAll (I2 6) (I2 7) (L2 8) 401 ((0, 0, 0), (0, 0), [], 0, 0) aD0)) → z = zText (I2 6) (I2 7) (L2 8) → wkB l G (d + 24 + 1) n_X1_parse (fun r t I' L' R' => t = 336 ∧ ∃ y, r = some (.int y) ∧ R = R' ∧ ∃ (K S : Nat → Int32) (N : Nat → Int64), (∀ j, j < 401 → K j = pKd (L 5) (cBy I) (cSz I) (pSt (cBy I) (cSz I) j) ∧ (S j).toInt = pSt (cBy I) (cSz I) j ∧ (pSt (cBy I) (cSz I) j < cSz I → (pLe (cBy I (pSt (cBy I) (cSz I) j)) = true ∨ pDi (cBy I (pSt (cBy I) (cSz I) j)) = true) → N j = pVl (cBy I) (cSz I) (pSt (cBy I) (cSz I) j))) ∧ cPf o I L I' L' ∧ cBd o I' ∧ (0 ≤ (I' 3 2).toInt ∧ (I' 3 2).toInt ≤ 400) ∧ (0 ≤ (I' 4 4).toInt ∧ (I' 4 4).toInt ≤ 2000) ∧ y = zAns (zText K S N) ∧ I' 3 5 = zPlc (zText K S N) ∧ (pf (zText K S N) = 0 → cDt o I' (aAll K S N 401 ((0, 0, 0), (0, 0), [], 0, 0) aD0))) 89 [.ref 3, .ref 1, .int a] [] I' L' R := by
    intro I' L' z a f g hD ez
    obtain ⟨-, h4, -⟩ := cAt g
    obtain ⟨-, g1, g2, g3, g4, g5⟩ := id g
    refine w_X1_parse_89 (fun q => w_X1_parse_119 ⟨rfl, _, rfl, rfl, _, _, _, c4, fr I' L' f, g5, g1, nx I' L' f, ?_, ?_, fun w => hD (by rw [ez]; exact w)⟩) (fun q => w_X1_parse_96 (fun q2 => w_X1_parse_119 ⟨rfl, _, rfl, rfl, _, _, _, c4, fr I' L' f, g5, g1, nx I' L' f, ?_, ?_, fun w => hD (by rw [ez]; exact w)⟩) (fun q2 => w_X1_parse_103 (w_X1_parse_119 ⟨rfl, _, rfl, rfl, _, _, _, c4, ?_, cBd_3 ho (cBd_3 ho g5), ?_, ?_, ?_, ?_, fun w => cDt_em (cEm_3 ho (fun k q => by rw [up3 q, up3 q])) (hD (by rw [ez]; exact w))⟩)))
    · have hn : ¬ pf z = 0 := fun e => q (by rw [h4]; exact e)
      rw [← ez]
      unfold zAns
      rw [if_neg hn]
      exact h4
    · have hn : ¬ pf z = 0 := fun e => q (by rw [h4]; exact e)
      rw [← ez]
      unfold zPlc
      rw [if_neg hn]
      exact g3 hn
    · have hf : pf z = 0 := by rw [← h4]; exact q
      have h36 := (g4 hf).2.1.1
      rw [← ez]
      unfold zAns
      rw [if_pos hf, h4, hf, ← h36]
      exact q2.symm
    · have hf : pf z = 0 := by rw [← h4]; exact q
      have h36 := (g4 hf).2.1.1
      rw [← ez]
      unfold zPlc
      rw [if_pos hf, if_pos (by rw [← h36]; exact q2)]
      exact (g4 hf).2.1.2.2
    · exact fr _ L' (cF_3 (by omega) (cF_3 (by omega) f))
    · rw [qUp_ne (by omega), qUp_ne (by omega)]; exact g1
    · rw [up3 (by decide), up3 (by decide)]; exact nx I' L' f
    · have hf : pf z = 0 := by rw [← h4]; exact q
      have h36 := (g4 hf).2.1.1
      rw [← ez]
      unfold zAns
      rw [if_pos hf, qUp_ne (by omega), qUp_at, if_pos ⟨rfl, rfl⟩]
      exact h36
    · have hf : pf z = 0 := by rw [← h4]; exact q
      have h36 := (g4 hf).2.1
      rw [← ez]
      unfold zPlc
      rw [if_pos hf, if_neg (fun e => q2 (by rw [h36.1]; exact e)), qUp_at, if_pos ⟨rfl, rfl⟩, qUp_ne (by omega)]
      exact h36.2.1 (fun e => q2 (by rw [h36.1]; exact e))
  have loop : ∀ (m : Nat) (a2 : Int32) (I' : qMI) (L' : qML) (z : pZ), 401 - a2.toInt = m → 0 ≤ a2.toInt → cF o J L2 I' L' → cH o (I2 6) (I2 7) (L2 8) I' L' z → pOk z → zAll (I2 6) (I2 7) (L2 8) m z = zText (I2 6) (I2 7) (L2 8) → ∀ A : aD, aAll (I2 6) (I2 7) (L2 8) m z A = aAll (I2 6) (I2 7) (L2 8) 401 ((0, 0, 0), (0, 0), [], 0, 0) aD0 → (pf z = 0 → cDt o I' A ∧ (I' (o + 6) 2).toInt ≤ 14 + pt z) → wkB l G (d + 24 + 1) n_X1_parse (fun r t I' L' R' => t = 336 ∧ ∃ y, r = some (.int y) ∧ R = R' ∧ ∃ (K S : Nat → Int32) (N : Nat → Int64), (∀ j, j < 401 → K j = pKd (L 5) (cBy I) (cSz I) (pSt (cBy I) (cSz I) j) ∧ (S j).toInt = pSt (cBy I) (cSz I) j ∧ (pSt (cBy I) (cSz I) j < cSz I → (pLe (cBy I (pSt (cBy I) (cSz I) j)) = true ∨ pDi (cBy I (pSt (cBy I) (cSz I) j)) = true) → N j = pVl (cBy I) (cSz I) (pSt (cBy I) (cSz I) j))) ∧ cPf o I L I' L' ∧ cBd o I' ∧ (0 ≤ (I' 3 2).toInt ∧ (I' 3 2).toInt ≤ 400) ∧ (0 ≤ (I' 4 4).toInt ∧ (I' 4 4).toInt ≤ 2000) ∧ y = zAns (zText K S N) ∧ I' 3 5 = zPlc (zText K S N) ∧ (pf (zText K S N) = 0 → cDt o I' (aAll K S N 401 ((0, 0, 0), (0, 0), [], 0, 0) aD0))) 58 [.ref 3, .ref 1, .int a2] [] I' L' R := by
    intro m
    induction m with
    | zero =>
      intro a2 I' L' z hm h0 f g hp e A eA hA
      exact w_X1_parse_58 (fun _ => fin I' L' z a2 f g (fun w => by rw [← eA]; exact (hA w).1) e) (fun q => absurd (i_lt.mpr (by rw [show (400 : Int32).toInt = 400 from rfl]; omega)) q)
    | succ m ih =>
      intro a2 I' L' z hm h0 f g hp e A eA hA
      obtain ⟨-, h4, hz⟩ := cAt g
      have stop : ¬ (pf z = 0 ∧ ¬ (I2 6) (pt z) = 0) → z = zText (I2 6) (I2 7) (L2 8) := fun q => by rw [zAll, if_neg q] at e; exact e
      have stopA : ¬ (pf z = 0 ∧ ¬ (I2 6) (pt z) = 0) → pf z = 0 → cDt o I' (aAll (I2 6) (I2 7) (L2 8) 401 ((0, 0, 0), (0, 0), [], 0, 0) aD0) := fun q w => by
        rw [aAll, if_neg q] at eA
        rw [← eA]
        exact (hA w).1
      refine w_X1_parse_58 (fun q => absurd (i_lt.mp q) (by rw [show (400 : Int32).toInt = 400 from rfl]; omega)) (fun _ => w_X1_parse_65 (fun q => fin I' L' z a2 f g (stopA (fun w => q (by rw [h4]; exact w.1))) (stop (fun w => q (by rw [h4]; exact w.1)))) (fun q => ?_))
      have hf : pf z = 0 := by rw [← h4]; exact q
      have ek := (hz hf).2
      refine w_X1_parse_72 (fun q1 => fin I' L' z a2 f g (stopA (fun w => w.2 (ek.symm.trans q1))) (stop (fun w => w.2 (ek.symm.trans q1)))) (fun q1 => ?_)
      refine w_X1_parse_79 (cTellW (d := d) ho hR g hf hp (hA hf).1 (hA hf).2) (fun I3 L3 R3 hq => ?_)
      obtain ⟨⟨rfl, f3, g3⟩, m3⟩ := hq
      rw [aAll, if_pos ⟨hf, fun w => q1 (ek.trans w)⟩] at eA
      rw [zAll, if_pos ⟨hf, fun w => q1 (ek.trans w)⟩] at e
      exact w_X1_parse_83 (ih (a2 + 1) I3 L3 _ (by rw [i_s (by omega)]; omega) (by rw [i_s (by omega)]; omega) (cF_tr f f3) g3 (zTell_ok hp) e _ eA m3)
  exact loop 401 0 J L2 _ (by rfl) (by decide) (cF_rf o J L2) j0 (fun _ => ⟨by decide, by decide, by decide⟩) rfl aD0 rfl (fun _ => ⟨dtJ, by rw [szJ]; decide⟩)
end
end
