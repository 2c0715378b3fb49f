theorem qSwt_e {J : Nat → Prop} {x v : Int32} {tg df : Nat} {l : List Nat} (h1 : x = v → J tg) (h2 : ¬ x = v → qSwt J x (v + 1) l df) : qSwt J x v (tg :: l) df := by
  unfold qSwt
  by_cases h : x = v
  · rw [if_pos h]; exact h1 h
  · rw [if_neg h]; exact h2 h
section
variable {K S : Nat → Int32} {N : Nat → Int64}
theorem zFail_2 {w : Int32} {z : pZ} : (zFail S w z).2 = z.2 := by unfold zFail; split <;> rfl
theorem zLoop_2 {c : Int32 → Bool} {u : pZ → pZ} (hu : ∀ y, (u y).2 = y.2) : ∀ (n : Nat) (z : pZ), (zLoop K S c u n z).2 = z.2
  | 0, z => rfl
  | n + 1, z => by
    rw [zLoop]
    split
    · rw [zLoop_2 hu n, hu, zTake_2]
    · rfl
theorem zPr_2 {u : pZ → pZ} (hu : ∀ y, (u y).2 = y.2) (z : pZ) : (zPr K S u z).2 = z.2 := by unfold zPr; rw [zLoop_2 hu, hu]
theorem zSu_2 {u : pZ → pZ} (hu : ∀ y, (u y).2 = y.2) (z : pZ) : (zSu K S u z).2 = z.2 := by unfold zSu; rw [zLoop_2 (zPr_2 hu), zPr_2 hu]
theorem zUn_2 : ∀ (e : Nat) (z : pZ), (zUn K S e z).2 = z.2
  | 0, z => by
    rw [zUn]
    split
    · split
      · exact zTake_2
      · exact zFail_2
    · rfl
  | e + 1, z => by
    rw [zUn]
    split
    · split
      · exact zTake_2
      · split
        · rw [zTake_2, zSu_2 (zUn_2 e), zTake_2]
        · exact zFail_2
    · rfl
theorem zEx_2 (z : pZ) : (zEx K S z).2 = z.2 := zSu_2 (zUn_2 6) z
theorem zMust_2 {k : Int32} {z : pZ} : (zMust K S k z).2 = z.2 := zTake_2
theorem zIf_2 (z : pZ) : (zIf K S z).2 = z.2 := by unfold zIf; rw [zMust_2, zEx_2, zMust_2, zEx_2, zMust_2, zEx_2, zTake_2]
theorem zIfs_2 : ∀ (n : Nat) (z : pZ), (zIfs K S n z).2 = z.2
  | 0, z => by
    rw [zIfs]
    split
    · rw [zIf_2, zFail_2]
    · rfl
  | n + 1, z => by
    rw [zIfs]
    split
    · rw [zIfs_2 n, zIf_2]
    · rfl
theorem zLaw_2 (z : pZ) : (zLaw K S z).2 = z.2 := by unfold zLaw; rw [zEx_2, zIfs_2, zMust_2]
theorem zSet_3 {k : Int32} {z : pZ} : (zSet K S N k z).2.2 = z.2.2 := by
  unfold zSet
  split
  · exact zInt_3
  · split
    · exact zInt_3
    · split
      · exact zInt_3
      · split
        · exact zInt_3
        · rw [zFail_2]
/-- names are no more than standers -/
def pOk (z : pZ) : Prop := pf z = 0 → z.2.2.1.length ≤ z.2.2.2.1 + z.2.2.2.2 ∧ z.2.2.2.1 ≤ 6 ∧ z.2.2.2.2 ≤ 6
theorem zMust_0 {k : Int32} {z : pZ} (h : pf (zMust K S k z) = 0) : pf z = 0 := zTake_0 h
theorem zStand_c {th : Bool} {z : pZ} : pf (zStand K S N th z) = 0 → (zStand K S N th z).2.2.1.length ≤ z.2.2.1.length + 1 ∧ (zStand K S N th z).2.2.2 = (if th = true then (z.2.2.2.1 + 1, z.2.2.2.2) else (z.2.2.2.1, z.2.2.2.2 + 1)) := by
  have key : ∀ y : pZ, y.2.2.2 = z.2.2.2 → y.2.2.1.length ≤ z.2.2.1.length + 1 → pf ((fun y : pZ => if pf y = 0 then (if th = true then (y.1, y.2.1, y.2.2.1, y.2.2.2.1 + 1, y.2.2.2.2) else (y.1, y.2.1, y.2.2.1, y.2.2.2.1, y.2.2.2.2 + 1)) else y) y) = 0 → ((fun y : pZ => if pf y = 0 then (if th = true then (y.1, y.2.1, y.2.2.1, y.2.2.2.1 + 1, y.2.2.2.2) else (y.1, y.2.1, y.2.2.1, y.2.2.2.1, y.2.2.2.2 + 1)) else y) y).2.2.1.length ≤ z.2.2.1.length + 1 ∧ ((fun y : pZ => if pf y = 0 then (if th = true then (y.1, y.2.1, y.2.2.1, y.2.2.2.1 + 1, y.2.2.2.2) else (y.1, y.2.1, y.2.2.1, y.2.2.2.1, y.2.2.2.2 + 1)) else y) y).2.2.2 = (if th = true then (z.2.2.2.1 + 1, z.2.2.2.2) else (z.2.2.2.1, z.2.2.2.2 + 1)) := by
    intro y h1 h2 h3
    by_cases hf : pf y = 0
    · simp only [if_pos hf] at h3 ⊢
      cases th with
      | true => exact ⟨h2, by simp [h1]⟩
      | false => exact ⟨h2, by simp [h1]⟩
    · simp only [if_neg hf] at h3
      exact absurd h3 hf
  intro h
  unfold zStand at h ⊢
  refine key _ ?_ ?_ h
  · split
    · rw [zInt_3, zInt_3]; exact zName_c.1
    · rw [zInt_3, zInt_3]; exact zName_c.1
  · split
    · rw [zInt_3, zInt_3]; exact zName_c.2
    · rw [zInt_3, zInt_3]; exact zName_c.2
theorem zTell_ok {z : pZ} (h : pOk z) : pOk (zTell K S N z) := by
  intro hf
  unfold zTell at hf ⊢
  have h0 := zMust_0 hf
  rw [zMust_2]
  generalize hy : zTake S (decide (128 ≤ K (pt z) ∧ K (pt z) ≤ 138)) (if (K (pt z) = 128 ∧ 6 ≤ z.2.2.2.1) ∨ (K (pt z) = 129 ∧ 6 ≤ z.2.2.2.2) then zFail S 2 z else z) = y at hf h0 ⊢
  have y2 : y.2 = z.2 := by
    rw [← hy, zTake_2]
    split
    · exact zFail_2
    · rfl
  have yf : pf y = 0 → pf z = 0 ∧ ¬ ((K (pt z) = 128 ∧ 6 ≤ z.2.2.2.1) ∨ (K (pt z) = 129 ∧ 6 ≤ z.2.2.2.2)) := fun q => by
    rw [← hy] at q
    have q := zTake_0 q
    by_cases c : (K (pt z) = 128 ∧ 6 ≤ z.2.2.2.1) ∨ (K (pt z) = 129 ∧ 6 ≤ z.2.2.2.2)
    · rw [if_pos c] at q
      unfold zFail at q
      split at q
      · exact absurd (show (2 : Int32) = 0 from q) (by decide)
      · rename_i n; exact absurd q n
    · rw [if_neg c] at q
      exact ⟨q, c⟩
  have st0 : ∀ th, pf (zStand K S N th y) = 0 → pf y = 0 := fun th q => by
    refine Decidable.byContradiction fun n => ?_
    unfold zStand at q
    rw [zName_f n, zInt_f n, zInt_f n, zInt_f n] at q
    simp only [ite_self, if_neg n] at q
    exact n q
  by_cases c1 : K (pt z) = 128
  · rw [if_pos c1] at h0 ⊢
    obtain ⟨a1, a2⟩ := zStand_c h0
    obtain ⟨b1, b2⟩ := yf (st0 _ h0)
    obtain ⟨d1, d2, d3⟩ := h b1
    rw [a2, if_pos rfl]
    rw [y2] at a1 ⊢
    have : ¬ 6 ≤ z.2.2.2.1 := fun q => b2 (Or.inl ⟨c1, q⟩)
    show _ ≤ z.2.2.2.1 + 1 + z.2.2.2.2 ∧ z.2.2.2.1 + 1 ≤ 6 ∧ z.2.2.2.2 ≤ 6
    omega
  · rw [if_neg c1] at h0 ⊢
    by_cases c2 : K (pt z) = 129
    · rw [if_pos c2] at h0 ⊢
      obtain ⟨a1, a2⟩ := zStand_c h0
      obtain ⟨b1, b2⟩ := yf (st0 _ h0)
      obtain ⟨d1, d2, d3⟩ := h b1
      rw [a2, if_neg (by decide)]
      rw [y2] at a1 ⊢
      have : ¬ 6 ≤ z.2.2.2.2 := fun q => b2 (Or.inr ⟨c2, q⟩)
      show _ ≤ z.2.2.2.1 + (z.2.2.2.2 + 1) ∧ z.2.2.2.1 ≤ 6 ∧ z.2.2.2.2 + 1 ≤ 6
      omega
    · rw [if_neg c2] at h0 ⊢
      have hz : pf z = 0 := by
        refine (yf (Decidable.byContradiction fun n => ?_)).1
        split at h0
        · unfold zLaw zMust at h0
          rw [zTake_f n] at h0
          have e1 : zIfs K S 4 y = y := by rw [zIfs, if_neg (fun q => n q.1)]
          have e2 : zUn K S 6 y = y := by rw [zUn, if_neg n]
          have e3 : ∀ (c : Int32 → Bool) (u : pZ → pZ) (m : Nat), zLoop K S c u m y = y := fun c u m => by
            cases m with
            | zero => rfl
            | succ m => rw [zLoop, if_neg (fun q => n q.1)]
          rw [e1, zEx, zSu, zPr, e2, e3, e3] at h0
          exact n h0
        · unfold zSet at h0
          rw [zInt_f n, zInt_f n, zInt_f n, zInt_f n, zFail_f n] at h0
          simp only [ite_self] at h0
          exact n h0
      have e22 : ∀ w : pZ, w.2.2 = z.2.2 → w.2.2.1.length ≤ w.2.2.2.1 + w.2.2.2.2 ∧ w.2.2.2.1 ≤ 6 ∧ w.2.2.2.2 ≤ 6 := fun w e => by rw [e]; exact h hz
      split
      · exact e22 _ (by rw [zLaw_2, y2])
      · exact e22 _ (by rw [zSet_3, y2])
end
section
variable {l : Launch} {G : qG} {d : Nat} {I : qMI} {L : qML} {R : qMR} {o : Nat} {z : pZ} {K S : Nat → Int32} {N : Nat → Int64}
theorem cSet (ho : o = 9 ∨ o = 259) (hR : cRf R o) (h : cH o K S N I L z) {k : Int32} : wkCv l G (d + 3) n_X1_takeSetting [.ref 3, .int k] I L R (cPo o K S N I L R (zSet K S N k z)) := by
  have fin : ∀ (i : Nat) (v : Int32) (I1 : qMI) (L1 : qML) (z' : pZ), 8 ≤ i ∧ i ≤ 12 → z' = zSet K S N k z → cF o I L I1 L1 → cH o K S N I1 L1 z' → wkB l G (d + 2 + 1) n_X1_takeSetting (fun r t I' L' R' => t = 336 ∧ r = none ∧ cPo o K S N I L R (zSet K S N k z) I' L' R') 106 [.ref 3, .int k] [] (qUp I1 o i v) L1 R := by
    intro i v I1 L1 z' hi e f g
    rw [e] at g
    obtain ⟨f2, g2⟩ := cH_w (x := v) (i := i) (k := o) ho (Or.inl ⟨rfl, hi⟩) g
    exact w_X1_takeSetting_106 ⟨rfl, rfl, rfl, cF_tr f f2, g2⟩
  refine wkC_of 0 (by decide) (Nat.le_of_ble_eq_true rfl) (w_X1_takeSetting_0 (qSwt_e (fun q => ?_) (fun n1 => qSwt_e (fun q => ?_) (fun n2 => qSwt_e (fun q => ?_) (fun n3 => qSwt_e (fun q => ?_) (fun n4 => qSwt_d ?_))))))
  · refine w_X1_takeSetting_32 ho hR.1.2 (cInt (d := d) ho hR h) (fun y I1 L1 R1 hq => ?_)
    obtain ⟨rfl, f, g⟩ := hq
    exact w_X1_takeSetting_43 ho (fin 8 y I1 L1 _ (by decide) (by unfold zSet; rw [if_pos q]) f g)
  · refine w_X1_takeSetting_49 ho hR.1.2 (cInt (d := d) ho hR h) (fun y I1 L1 R1 hq => ?_)
    obtain ⟨rfl, f, g⟩ := hq
    have q : k = 136 := q
    exact w_X1_takeSetting_60 ho (fin 9 y I1 L1 _ (by decide) (by unfold zSet; rw [if_neg (by rw [q]; decide), if_pos q]) f g)
  · refine w_X1_takeSetting_66 ho hR.1.2 (cInt (d := d) ho hR h) (fun y I1 L1 R1 hq => ?_)
    obtain ⟨rfl, f, g⟩ := hq
    have q : k = 137 := q
    exact w_X1_takeSetting_77 ho (fin 10 y I1 L1 _ (by decide) (by unfold zSet; rw [if_neg (by rw [q]; decide), if_neg (by rw [q]; decide), if_pos q]) f g)
  · refine w_X1_takeSetting_83 ho hR.1.2 (cInt (d := d) ho hR h) (fun y I1 L1 R1 hq => ?_)
    obtain ⟨rfl, f, g⟩ := hq
    have q : k = 138 := q
    exact w_X1_takeSetting_95 ho (fin 11 y I1 L1 _ (by decide) (by unfold zSet; rw [if_neg (by rw [q]; decide), if_neg (by rw [q]; decide), if_neg (by rw [q]; decide), if_pos q]) f g)
  · have n2 : ¬ k = 136 := n2
    have n3 : ¬ k = 137 := n3
    have n4 : ¬ k = 138 := n4
    refine w_X1_takeSetting_101 (cFailH (d := d + 1) ho hR h (by decide)) (fun I1 L1 R1 hq => ?_)
    obtain ⟨rfl, f, g⟩ := hq
    refine w_X1_takeSetting_106 ⟨rfl, rfl, rfl, f, ?_⟩
    rw [show zSet K S N k z = zFail S 1 z from by unfold zSet; rw [if_neg n1, if_neg n2, if_neg n3, if_neg n4]]
    exact g
theorem cLaw (ho : o = 9 ∨ o = 259) (hR : cRf R o) (h : cH o K S N I L z) {a1 : Int32} : wkCv l G (d + 23) n_X1_takeLaw [.ref 3, .int a1] I L R (cPo o K S N I L R (zLaw K S z)) := by
  have last : ∀ (a2 : Int32) (J : qMI) (M : qML) (y : pZ), cF o I L J M → cH o K S N J M y → zEx K S y = zLaw K S z → wkB l G (d + 22 + 1) n_X1_takeLaw (fun r t I' L' R' => t = 336 ∧ r = none ∧ cPo o K S N I L R (zLaw K S z) I' L' R') 184 [.ref 3, .int a1, .int a2, wkU] [] J M R := by
    intro a2 J M y f g e
    refine w_X1_takeLaw_184 (cExpr (d := d) ho hR g) (fun I1 L1 R1 hq => ?_)
    obtain ⟨rfl, f1, g1⟩ := hq
    rw [e] at g1
    refine w_X1_takeLaw_189 ho hR.1.2 hR.2.2.1.2.2.2.2.2 (cEmit (d := d + 21) ho hR g1) (fun y3 I3 L3 R3 hq => ?_)
    obtain ⟨rfl, f3, g3⟩ := hq
    exact w_X1_takeLaw_202 ⟨rfl, rfl, rfl, cF_tr f (cF_tr f1 f3), g3⟩
  have body : ∀ (a2 : Int32) (J : qMI) (M : qML) (y : pZ), cF o I L J M → cH o K S N J M y → (∀ (J' : qMI) (M' : qML), cF o I L J' M' → cH o K S N J' M' (zIf K S y) → wkB l G (d + 22 + 1) n_X1_takeLaw (fun r t I' L' R' => t = 336 ∧ r = none ∧ cPo o K S N I L R (zLaw K S z) I' L' R') 31 [.ref 3, .int a1, .int (a2 + 1), wkU] [] J' M' R) → wkB l G (d + 22 + 1) n_X1_takeLaw (fun r t I' L' R' => t = 336 ∧ r = none ∧ cPo o K S N I L R (zLaw K S z) I' L' R') 63 [.ref 3, .int a1, .int a2, wkU] [] J M R := by
    intro a2 J M y f g next
    refine w_X1_takeLaw_63 (cTakeH (d := d + 21) ho hR g (Or.inr rfl) (c := true) (fun _ => rfl)) (fun I1 L1 R1 hq => ?_)
    obtain ⟨rfl, f1, g1⟩ := hq
    refine w_X1_takeLaw_68 (cExpr (d := d) ho hR g1) (fun I2 L2 R2 hq => ?_)
    obtain ⟨rfl, f2, g2⟩ := hq
    have s1 : ∀ b : Int32, (b = 0 ∨ b = 1) → (pf (zEx K S (zTake S true y)) = 0 → decide (b = 1) = decide (K (pt (zEx K S (zTake S true y))) = 60)) → wkB l G (d + 22 + 1) n_X1_takeLaw (fun r t I' L' R' => t = 336 ∧ r = none ∧ cPo o K S N I L R (zLaw K S z) I' L' R') 88 [.ref 3, .int a1, .int a2, wkU] [.int b, .ref 3] I2 L2 R := by
      intro b hb hc
      refine w_X1_takeLaw_88 (cTakeH (d := d + 21) ho hR g2 hb hc) (fun I3 L3 R3 hq => ?_)
      obtain ⟨rfl, f3, g3⟩ := hq
      refine w_X1_takeLaw_91 (cExpr (d := d) ho hR g3) (fun I4 L4 R4 hq => ?_)
      obtain ⟨rfl, f4, g4⟩ := hq
      generalize hy4 : zEx K S (zTake S (decide (K (pt (zEx K S (zTake S true y))) = 60)) (zEx K S (zTake S true y))) = y4 at g4
      have s2 : ∀ b : Int32, (b = 0 ∨ b = 1) → (pf y4 = 0 → decide (b = 1) = decide (K (pt y4) = 140)) → wkB l G (d + 22 + 1) n_X1_takeLaw (fun r t I' L' R' => t = 336 ∧ r = none ∧ cPo o K S N I L R (zLaw K S z) I' L' R') 112 [.ref 3, .int a1, .int a2, wkU] [.int b, .ref 3] I4 L4 R := by
        intro b hb hc
        refine w_X1_takeLaw_112 (cTakeH (d := d + 21) ho hR g4 hb hc) (fun I5 L5 R5 hq => ?_)
        obtain ⟨rfl, f5, g5⟩ := hq
        refine w_X1_takeLaw_115 ho hR.1.2 hR.2.2.1.2.2.2.2.2 (cEmit (d := d + 21) ho hR g5) (fun sk I6 L6 R6 hq => ?_)
        obtain ⟨rfl, f6, g6⟩ := hq
        refine w_X1_takeLaw_128 (cExpr (d := d) ho hR g6) (fun I7 L7 R7 hq => ?_)
        obtain ⟨rfl, f7, g7⟩ := hq
        generalize hy7 : zEx K S (zTake S (decide (K (pt y4) = 140)) y4) = y7 at g7
        have s3 : ∀ b : Int32, (b = 0 ∨ b = 1) → (pf y7 = 0 → decide (b = 1) = decide (K (pt y7) = 141)) → wkB l G (d + 22 + 1) n_X1_takeLaw (fun r t I' L' R' => t = 336 ∧ r = none ∧ cPo o K S N I L R (zLaw K S z) I' L' R') 150 [.ref 3, .int a1, .int a2, .int sk] [.int b, .ref 3] I7 L7 R := by
          intro b hb hc
          refine w_X1_takeLaw_150 (cTakeH (d := d + 21) ho hR g7 hb hc) (fun I8 L8 R8 hq => ?_)
          obtain ⟨rfl, f8, g8⟩ := hq
          refine w_X1_takeLaw_153 ho hR.1.2 hR.2.2.1.2.2.2.2.2 (cEmit (d := d + 21) ho hR g8) (fun y9 I9 L9 R9 hq => ?_)
          obtain ⟨rfl, f9, g9⟩ := hq
          refine w_X1_takeLaw_166 ho hR.1.2 hR.2.2.1.2.2.2.2.2 (cLead (d := d + 21) ho hR g9) (fun IA LA RA hq => ?_)
          obtain ⟨rfl, fA, gA⟩ := hq
          refine w_X1_takeLaw_178 (next IA LA (cF_tr f (cF_tr f1 (cF_tr f2 (cF_tr f3 (cF_tr f4 (cF_tr f5 (cF_tr f6 (cF_tr f7 (cF_tr f8 (cF_tr f9 fA)))))))))) ?_)
          have h4' : zEx K S (zMust K S 60 (zEx K S (zTake S true y))) = y4 := by unfold zMust; exact hy4
          have h7' : zEx K S (zMust K S 140 y4) = y7 := by unfold zMust; exact hy7
          have ez : zIf K S y = zMust K S 141 y7 := by unfold zIf; rw [h4', h7']
          rw [ez]
          unfold zMust
          exact gA
        exact w_X1_takeLaw_134 (fun q => w_X1_takeLaw_149 (s3 0 (Or.inl rfl) (fun hf => cMustN g7 hf q))) (fun q => w_X1_takeLaw_145 (s3 1 (Or.inr rfl) (fun hf => cMustB g7 hf q)))
      exact w_X1_takeLaw_96 (fun q => w_X1_takeLaw_111 (s2 0 (Or.inl rfl) (fun hf => cMustN g4 hf q))) (fun q => w_X1_takeLaw_107 (s2 1 (Or.inr rfl) (fun hf => cMustB g4 hf q)))
    exact w_X1_takeLaw_73 (fun q => w_X1_takeLaw_87 (s1 0 (Or.inl rfl) (fun hf => cMustN g2 hf q))) (fun q => w_X1_takeLaw_83 (s1 1 (Or.inr rfl) (fun hf => cMustB g2 hf q)))
  have loop : ∀ (n : Nat) (a2 : Int32) (J : qMI) (M : qML) (y : pZ), a2.toInt = 4 - n → n ≤ 4 → cF o I L J M → cH o K S N J M y → zEx K S (zIfs K S n y) = zLaw K S z → wkB l G (d + 22 + 1) n_X1_takeLaw (fun r t I' L' R' => t = 336 ∧ r = none ∧ cPo o K S N I L R (zLaw K S z) I' L' R') 31 [.ref 3, .int a1, .int a2, wkU] [] J M R := by
    intro n
    induction n with
    | zero =>
      intro a2 J M y ha hn f g e
      obtain ⟨-, h4, hz⟩ := cAt g
      have stop : ¬ (pf y = 0 ∧ K (pt y) = 139) → zEx K S y = zLaw K S z := fun q => by rw [zIfs, if_neg q] at e; exact e
      refine w_X1_takeLaw_31 (fun q => absurd (i_lt.mp q) (by rw [show (4 : Int32).toInt = 4 from rfl]; omega)) (fun _ => w_X1_takeLaw_36 (fun q => last a2 J M y f g (stop (fun w => q (by rw [h4]; exact w.1)))) (fun q => ?_))
      have hf : pf y = 0 := by rw [← h4]; exact q
      have ek := (hz hf).2
      refine w_X1_takeLaw_43 (fun q1 => last a2 J M y f g (stop (fun w => q1 (ek.trans w.2)))) (fun q1 => ?_)
      have e4 : a2 = 4 := i_eq.mpr (by rw [show (4 : Int32).toInt = 4 from rfl]; omega)
      refine w_X1_takeLaw_53 (fun q2 => absurd e4 q2) (fun _ => w_X1_takeLaw_58 (cFailH (d := d + 21) ho hR g (by decide)) (fun I1 L1 R1 hq => ?_))
      obtain ⟨rfl, f1, g1⟩ := hq
      refine body a2 I1 L1 _ (cF_tr f f1) g1 (fun J' M' f' g' => ?_)
      refine w_X1_takeLaw_31 (fun _ => last _ J' M' _ f' g' ?_) (fun q2 => absurd (i_lt.mpr (by rw [show (4 : Int32).toInt = 4 from rfl, i_s (by omega)]; omega)) q2)
      rw [zIfs, if_pos ⟨hf, ek.symm.trans q1⟩] at e
      exact e
    | succ n ih =>
      intro a2 J M y ha hn f g e
      obtain ⟨-, h4, hz⟩ := cAt g
      have stop : ¬ (pf y = 0 ∧ K (pt y) = 139) → zEx K S y = zLaw K S z := fun q => by rw [zIfs, if_neg q] at e; exact e
      refine w_X1_takeLaw_31 (fun q => absurd (i_lt.mp q) (by rw [show (4 : Int32).toInt = 4 from rfl]; omega)) (fun _ => w_X1_takeLaw_36 (fun q => last a2 J M y f g (stop (fun w => q (by rw [h4]; exact w.1)))) (fun q => ?_))
      have hf : pf y = 0 := by rw [← h4]; exact q
      have ek := (hz hf).2
      refine w_X1_takeLaw_43 (fun q1 => last a2 J M y f g (stop (fun w => q1 (ek.trans w.2)))) (fun q1 => ?_)
      refine w_X1_takeLaw_53 (fun _ => body a2 J M y f g (fun J' M' f' g' => ih (a2 + 1) J' M' _ (by rw [i_s (by omega)]; omega) (by omega) f' g' ?_)) (fun q2 => absurd (i_eq.mp q2) (by rw [show (4 : Int32).toInt = 4 from rfl]; omega))
      rw [zIfs, if_pos ⟨hf, ek.symm.trans q1⟩] at e
      exact e
  have first : ∀ b : Int32, (b = 0 ∨ b = 1) → (pf z = 0 → decide (b = 1) = decide (K (pt z) = 61)) → wkB l G (d + 22 + 1) n_X1_takeLaw (fun r t I' L' R' => t = 336 ∧ r = none ∧ cPo o K S N I L R (zLaw K S z) I' L' R') 15 [.ref 3, .int a1, wkU, wkU] [.int b, .ref 3] I L R := by
    intro b hb hc
    refine w_X1_takeLaw_15 (cTakeH (d := d + 21) ho hR h hb hc) (fun I1 L1 R1 hq => ?_)
    obtain ⟨rfl, f1, g1⟩ := hq
    refine w_X1_takeLaw_18 ho hR.1.2 hR.2.2.1.2.2.2.2.2 (cOpen (d := d + 21) ho hR g1) (fun I2 L2 R2 hq => ?_)
    obtain ⟨rfl, f2, g2⟩ := hq
    exact w_X1_takeLaw_29 (loop 4 0 I2 L2 _ (by rfl) (Nat.le_refl _) (cF_tr f1 f2) g2 rfl)
  exact wkC_of 2 (by decide) (Nat.le_of_ble_eq_true rfl) (w_X1_takeLaw_0 (fun q => w_X1_takeLaw_14 (first 0 (Or.inl rfl) (fun hf => cMustN h hf q))) (fun q => w_X1_takeLaw_10 (first 1 (Or.inr rfl) (fun hf => cMustB h hf q))))
theorem cTell (ho : o = 9 ∨ o = 259) (hR : cRf R o) (h : cH o K S N I L z) (hf : pf z = 0) (hp : pOk z) : wkCv l G (d + 24) n_X1_takeTell [.ref 3] I L R (cPo o K S N I L R (zTell K S N z)) := by
  obtain ⟨-, h4, hz⟩ := cAt h
  obtain ⟨p1, p2, p3⟩ := hp hf
  have ek := (hz hf).2
  obtain ⟨-, -, -, -, n3, n4⟩ := h.2.2.2.2.1 hf
  generalize hk : K (pt z) = k at *
  have fin : ∀ (J : qMI) (M : qML) (y : pZ), cF o I L J M → cH o K S N J M y → zMust K S 59 y = zTell K S N z → wkB l G (d + 23 + 1) n_X1_takeTell (fun r t I' L' R' => t = 336 ∧ r = none ∧ cPo o K S N I L R (zTell K S N z) I' L' R') 135 [.ref 3, .int k] [] J M R := by
    intro J M y f g e
    have s : ∀ b : Int32, (b = 0 ∨ b = 1) → (pf y = 0 → decide (b = 1) = decide (K (pt y) = 59)) → wkB l G (d + 23 + 1) n_X1_takeTell (fun r t I' L' R' => t = 336 ∧ r = none ∧ cPo o K S N I L R (zTell K S N z) I' L' R') 150 [.ref 3, .int k] [.int b, .ref 3] J M R := by
      intro b hb hc
      refine w_X1_takeTell_150 (cTakeH (d := d + 22) ho hR g hb hc) (fun I1 L1 R1 hq => ?_)
      obtain ⟨rfl, f1, g1⟩ := hq
      refine w_X1_takeTell_153 ⟨rfl, rfl, rfl, cF_tr f f1, ?_⟩
      rw [← e]
      exact g1
    exact w_X1_takeTell_135 (fun q => w_X1_takeTell_149 (s 0 (Or.inl rfl) (fun hf => cMustN g hf q))) (fun q => w_X1_takeTell_145 (s 1 (Or.inr rfl) (fun hf => cMustB g hf q)))
  have mid : ∀ (J : qMI) (M : qML) (y : pZ), cF o I L J M → cH o K S N J M y → y = (if (k = 128 ∧ 6 ≤ z.2.2.2.1) ∨ (k = 129 ∧ 6 ≤ z.2.2.2.2) then zFail S 2 z else z) → wkB l G (d + 23 + 1) n_X1_takeTell (fun r t I' L' R' => t = 336 ∧ r = none ∧ cPo o K S N I L R (zTell K S N z) I' L' R') 48 [.ref 3, .int k] [] J M R := by
    intro J M y f g ey
    have s : ∀ b : Int32, (b = 0 ∨ b = 1) → decide (b = 1) = decide (128 ≤ k ∧ k ≤ 138) → wkB l G (d + 23 + 1) n_X1_takeTell (fun r t I' L' R' => t = 336 ∧ r = none ∧ cPo o K S N I L R (zTell K S N z) I' L' R') 68 [.ref 3, .int k] [.int b, .ref 3] J M R := by
      intro b hb hc
      refine w_X1_takeTell_68 (cTakeH (d := d + 22) ho hR g hb (fun _ => hc)) (fun I1 L1 R1 hq => ?_)
      obtain ⟨rfl, f1, g1⟩ := hq
      generalize hy2 : zTake S (decide (128 ≤ k ∧ k ≤ 138)) y = y2 at g1
      have ez : zTell K S N z = zMust K S 59 (if k = 128 then zStand K S N true y2 else if k = 129 then zStand K S N false y2 else if 130 ≤ k ∧ k < 135 then zLaw K S y2 else zSet K S N k y2) := by
        rw [← hy2, ey]
        unfold zTell
        rw [hk]
      have y22 : y2.2 = z.2 := by
        rw [← hy2, zTake_2, ey]
        split
        · exact zFail_2
        · rfl
      have y2f : pf y2 = 0 → ¬ ((k = 128 ∧ 6 ≤ z.2.2.2.1) ∨ (k = 129 ∧ 6 ≤ z.2.2.2.2)) := fun q c => by
        rw [← hy2] at q
        have q := zTake_0 q
        rw [ey, if_pos c] at q
        unfold zFail at q
        rw [if_pos hf] at q
        exact absurd (show (2 : Int32) = 0 from q) (by decide)
      have stand : ∀ c : Int32, (c = 0 ∨ c = 1) → ((c = 1 ∧ k = 128) ∨ (c = 0 ∧ k = 129)) → wkB l G (d + 23 + 1) n_X1_takeTell (fun r t I' L' R' => t = 336 ∧ r = none ∧ cPo o K S N I L R (zTell K S N z) I' L' R') 98 [.ref 3, .int k] [.int c, .ref 3] I1 L1 R := by
        intro c hc0 hc1
        refine w_X1_takeTell_98 (cStand (d := d + 20) ho hR g1 hc0 (fun q => ?_)) (fun I2 L2 R2 hq => ?_)
        · rw [y22]
          have nn := y2f q
          rcases hc1 with ⟨rfl, e⟩ | ⟨rfl, e⟩
          · have : ¬ 6 ≤ z.2.2.2.1 := fun w => nn (Or.inl ⟨e, w⟩)
            exact ⟨by omega, fun _ => by omega, fun w => absurd w (by decide)⟩
          · have : ¬ 6 ≤ z.2.2.2.2 := fun w => nn (Or.inr ⟨e, w⟩)
            exact ⟨by omega, fun w => absurd w (by decide), fun _ => by omega⟩
        · obtain ⟨rfl, f2, g2⟩ := hq
          refine w_X1_takeTell_101 (fin I2 L2 _ (cF_tr f (cF_tr f1 f2)) g2 ?_)
          rw [ez]
          rcases hc1 with ⟨rfl, e⟩ | ⟨rfl, e⟩
          · rw [if_pos e]; rfl
          · rw [if_neg (by rw [e]; decide), if_pos e]; rfl
      have set : ¬ k = 128 → ¬ k = 129 → ¬ (130 ≤ k ∧ k < 135) → wkB l G (d + 23 + 1) n_X1_takeTell (fun r t I' L' R' => t = 336 ∧ r = none ∧ cPo o K S N I L R (zTell K S N z) I' L' R') 130 [.ref 3, .int k] [] I1 L1 R := by
        intro c1 c2 c3
        refine w_X1_takeTell_130 (cSet (d := d + 20) ho hR g1) (fun I2 L2 R2 hq => ?_)
        obtain ⟨rfl, f2, g2⟩ := hq
        exact fin I2 L2 _ (cF_tr f (cF_tr f1 f2)) g2 (by rw [ez, if_neg c1, if_neg c2, if_neg c3])
      refine w_X1_takeTell_71 (fun q => w_X1_takeTell_85 (fun q2 => absurd q q2) (fun _ => w_X1_takeTell_93 (stand 1 (Or.inr rfl) (Or.inl ⟨rfl, q⟩)))) (fun q => w_X1_takeTell_78 (fun q2 => ?_) (fun q2 => w_X1_takeTell_85 (fun _ => w_X1_takeTell_97 (stand 0 (Or.inl rfl) (Or.inr ⟨rfl, q2⟩))) (fun q3 => absurd q3 q)))
      refine w_X1_takeTell_104 (fun q3 => set q q2 (fun w => absurd q3 (Int32.not_lt.mpr w.1))) (fun q3 => w_X1_takeTell_111 (fun q4 => set q q2 (fun w => absurd w.2 (Int32.not_lt.mpr q4))) (fun q4 => ?_))
      refine w_X1_takeTell_118 (cLaw (d := d) ho hR g1) (fun I2 L2 R2 hq => ?_)
      obtain ⟨rfl, f2, g2⟩ := hq
      exact w_X1_takeTell_127 (fin I2 L2 _ (cF_tr f (cF_tr f1 f2)) g2 (by rw [ez, if_neg q, if_neg q2, if_pos ⟨Int32.not_lt.mp q3, Int32.not_le.mp q4⟩]))
    exact w_X1_takeTell_48 (fun q => w_X1_takeTell_67 (s 0 (Or.inl rfl) (by rw [decide_eq_false (fun w : 128 ≤ k ∧ k ≤ 138 => absurd q (Int32.not_lt.mpr w.1))]; rfl))) (fun q => w_X1_takeTell_56 (fun q2 => w_X1_takeTell_67 (s 0 (Or.inl rfl) (by rw [decide_eq_false (fun w : 128 ≤ k ∧ k ≤ 138 => absurd q2 (Int32.not_lt.mpr w.2))]; rfl))) (fun q2 => w_X1_takeTell_63 (s 1 (Or.inr rfl) (by rw [decide_eq_true (show 128 ≤ k ∧ k ≤ 138 from ⟨Int32.not_lt.mp q, Int32.not_lt.mp q2⟩)]; rfl))))
  have bad : ((k = 128 ∧ 6 ≤ z.2.2.2.1) ∨ (k = 129 ∧ 6 ≤ z.2.2.2.2)) → wkB l G (d + 23 + 1) n_X1_takeTell (fun r t I' L' R' => t = 336 ∧ r = none ∧ cPo o K S N I L R (zTell K S N z) I' L' R') 43 [.ref 3, .int k] [] I L R := fun c => by
    refine w_X1_takeTell_43 (cFailH (d := d + 22) ho hR h (by decide)) (fun I1 L1 R1 hq => ?_)
    obtain ⟨rfl, f1, g1⟩ := hq
    exact mid I1 L1 _ f1 g1 (by rw [if_pos c])
  have ok : ¬ ((k = 128 ∧ 6 ≤ z.2.2.2.1) ∨ (k = 129 ∧ 6 ≤ z.2.2.2.2)) → wkB l G (d + 23 + 1) n_X1_takeTell (fun r t I' L' R' => t = 336 ∧ r = none ∧ cPo o K S N I L R (zTell K S N z) I' L' R') 48 [.ref 3, .int k] [] I L R := fun c => mid I L z (cF_rf o I L) h (by rw [if_neg c])
  refine wkC_of 1 (by decide) (Nat.le_of_ble_eq_true rfl) ?_
  have w0 := @w_X1_takeTell_0 l G (d + 23) (fun r t I' L' R' => t = 336 ∧ r = none ∧ cPo o K S N I L R (zTell K S N z) I' L' R') I L R
  rw [ek] at w0
  have at24 : ¬ k = 128 ∨ ¬ 6 ≤ z.2.2.2.1 → wkB l G (d + 23 + 1) n_X1_takeTell (fun r t I' L' R' => t = 336 ∧ r = none ∧ cPo o K S N I L R (zTell K S N z) I' L' R') 24 [.ref 3, .int k] [] I L R := fun c => by
    refine w_X1_takeTell_24 (fun q => ok (fun w => ?_)) (fun q => w_X1_takeTell_31 ho hR.1.2 (fun q2 => ok (fun w => ?_)) (fun q2 => bad (Or.inr ⟨q, ?_⟩)))
    · rcases w with w | w
      · rcases c with c | c
        · exact c w.1
        · exact c w.2
      · exact q w.1
    · have q2 := i_lt.mp q2
      rw [show (6 : Int32).toInt = 6 from rfl] at q2
      rcases w with w | w
      · rw [q] at w; exact absurd w.1 (by decide)
      · omega
    · have q2 : ¬ _ := fun w => q2 (i_lt.mpr w)
      rw [show (6 : Int32).toInt = 6 from rfl] at q2
      omega
  refine w0 (fun q => at24 (Or.inl q)) (fun q => w_X1_takeTell_12 ho hR.1.2 (fun q2 => bad (Or.inl ⟨q, ?_⟩)) (fun q2 => at24 (Or.inr (fun w => q2 (i_le.mpr (by rw [show (6 : Int32).toInt = 6 from rfl]; omega))))))
  have q2 := i_le.mp q2
  rw [show (6 : Int32).toInt = 6 from rfl] at q2
  omega
end
