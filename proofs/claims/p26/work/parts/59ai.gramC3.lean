def cH (o : Nat) (K S : Nat → Int32) (N : Nat → Int64) (I : qMI) (L : qML) (z : pZ) : Prop := (I 6 = K ∧ I 7 = S ∧ L 8 = N) ∧ cG o I L z
abbrev cPo (o : Nat) (K S : Nat → Int32) (N : Nat → Int64) (I : qMI) (L : qML) (R : qMR) (z : pZ) : qMI → qML → qMR → Prop := fun I' L' R' => R = R' ∧ cF o I L I' L' ∧ cH o K S N I' L' z
theorem cH_of {o : Nat} (ho : o = 9 ∨ o = 259) {K S : Nat → Int32} {N : Nat → Int64} {I I' : qMI} {L L' : qML} {z : pZ} (hE : I 6 = K ∧ I 7 = S ∧ L 8 = N) (hF : cF o I L I' L') (hG : cG o I' L' z) : cH o K S N I' L' z := ⟨⟨(hF.1 6 (by omega) (by omega)).trans hE.1, (hF.1 7 (by omega) (by omega)).trans hE.2.1, (hF.2.2.1 8 (by omega)).trans hE.2.2⟩, hG⟩
theorem zTake_f {S : Nat → Int32} {b : Bool} {z : pZ} (h : pf z ≠ 0) : zTake S b z = z := by unfold zTake; rw [if_neg h]
theorem zTake_0 {S : Nat → Int32} {b : Bool} {z : pZ} (h : pf (zTake S b z) = 0) : pf z = 0 := Decidable.byContradiction fun q => by rw [zTake_f q] at h; exact q h
theorem zFail_f {S : Nat → Int32} {w : Int32} {z : pZ} (h : pf z ≠ 0) : zFail S w z = z := by unfold zFail; rw [if_neg h]
section
variable {l : Launch} {G : qG} {d : Nat} {I : qMI} {L : qML} {R : qMR} {o : Nat} {z : pZ} {K S : Nat → Int32} {N : Nat → Int64}
theorem cTakeH (ho : o = 9 ∨ o = 259) (hR : cRf R o) (h : cH o K S N I L z) {b : Int32} (hb : b = 0 ∨ b = 1) {c : Bool} (hc : pf z = 0 → decide (b = 1) = c) : wkCv l G (d + 1) n_X1_take [.ref 3, .int b] I L R (cPo o K S N I L R (zTake S c z)) := by
  refine wkCv.mono (cTake ho hR h.2 hb) (fun I' L' R' hq => ?_)
  obtain ⟨e1, e2, e3⟩ := hq
  refine ⟨e1, e2, cH_of ho h.1 e2 ?_⟩
  rw [h.1.2.1] at e3
  by_cases hf : pf z = 0
  · rw [hc hf] at e3; exact e3
  · rw [zTake_f hf] at e3 ⊢; exact e3
theorem cFailH (ho : o = 9 ∨ o = 259) (hR : cRf R o) (h : cH o K S N I L z) {w : Int32} (hw : w ≠ 0) : wkCv l G (d + 1) n_X1_fail [.ref 3, .int w] I L R (cPo o K S N I L R (zFail S w z)) := by
  refine wkCv.mono (cFail ho hR h.2 hw) (fun I' L' R' hq => ?_)
  obtain ⟨e1, e2, e3⟩ := hq
  rw [h.1.2.1] at e3
  exact ⟨e1, e2, cH_of ho h.1 e2 e3⟩
theorem cNoteH (ho : o = 9 ∨ o = 259) (h : cH o K S N I L z) (hf : pf z = 0) {w p : Int32} (hw : w ≠ 0) : wkCv l G (d + 1) n_X1_note [.ref 3, .int w, .int p] I L R (cPo o K S N I L R (zNote w p z)) := by
  refine wkCv.mono (cNote ho h.2 hf hw) (fun I' L' R' hq => ?_)
  obtain ⟨e1, e2, e3⟩ := hq
  exact ⟨e1, e2, cH_of ho h.1 e2 e3⟩
/-- the token's place, as an index -/
theorem cAt (h : cH o K S N I L z) : vp_in (I 3 2) 401 ∧ I 3 4 = pf z ∧ (pf z = 0 → (I 3 2).toNatClampNeg = pt z ∧ I 3 3 = K (pt z)) := by
  obtain ⟨⟨e6, -, -⟩, h1, h2, -, h4, -⟩ := h
  refine ⟨vin h1.1 (by omega), h2, fun hf => ?_⟩
  obtain ⟨⟨a1, a2⟩, -⟩ := h4 hf
  refine ⟨by rw [tcn, a1, Int.toNat_natCast], by rw [a2, e6]⟩
theorem cInt (ho : o = 9 ∨ o = 259) (hR : cRf R o) (h : cH o K S N I L z) {lo hi : Int32} : wkCi l G (d + 2) n_X1_takeInt [.ref 3, .int lo, .int hi] I L R (fun _ I' L' R' => cPo o K S N I L R (zInt K S N lo hi z) I' L' R') := by
  obtain ⟨v1, hf4, hz⟩ := cAt h
  obtain ⟨⟨e6, e7, e8⟩, -⟩ := id h
  have fin : ∀ b : Int32, (b = 0 ∨ b = 1) → (pf z = 0 → decide (b = 1) = decide (K (pt z) = 3)) → wkB l G (d + 1 + 1) n_X1_takeInt (fun r t I' L' R' => t = 336 ∧ ∃ y, r = some (.int y) ∧ cPo o K S N I L R (zInt K S N lo hi z) I' L' R') 42 [.ref 3, .int lo, .int hi, .int (I 7 (I 3 2).toNatClampNeg), .int ((L 8 (I 3 2).toNatClampNeg).toInt32)] [.int b, .ref 3] I L R := by
    intro b hb hc
    refine w_X1_takeInt_42 (cTakeH (d := d) ho hR h hb hc) (fun I1 L1 R1 hq => ?_)
    obtain ⟨rfl, f1, g1⟩ := hq
    obtain ⟨-, h14, -⟩ := cAt g1
    have out : ∀ (I2 : qMI) (L2 : qML) (z' : pZ), cF o I L I2 L2 → cH o K S N I2 L2 z' → z' = zInt K S N lo hi z → wkB l G (d + 1 + 1) n_X1_takeInt (fun r t I' L' R' => t = 336 ∧ ∃ y, r = some (.int y) ∧ cPo o K S N I L R (zInt K S N lo hi z) I' L' R') 70 [.ref 3, .int lo, .int hi, .int (I 7 (I 3 2).toNatClampNeg), .int ((L 8 (I 3 2).toNatClampNeg).toInt32)] [] I2 L2 R := by
      intro I2 L2 z' f g e
      rw [e] at g
      exact w_X1_takeInt_70 ⟨rfl, _, rfl, rfl, f, g⟩
    refine w_X1_takeInt_45 (fun q => ?_) (fun q => ?_)
    · refine out I1 L1 _ f1 g1 ?_
      unfold zInt
      rw [if_neg (fun e => q (by rw [h14]; exact e.1))]
    · have hf1 : pf (zTake S (decide (K (pt z) = 3)) z) = 0 := by rw [← h14]; exact q
      have hf0 := zTake_0 hf1
      obtain ⟨c1, c2⟩ := hz hf0
      have note : ((N (pt z)).toInt32 < lo ∨ hi < (N (pt z)).toInt32) → wkB l G (d + 1 + 1) n_X1_takeInt (fun r t I' L' R' => t = 336 ∧ ∃ y, r = some (.int y) ∧ cPo o K S N I L R (zInt K S N lo hi z) I' L' R') 64 [.ref 3, .int lo, .int hi, .int (I 7 (I 3 2).toNatClampNeg), .int ((L 8 (I 3 2).toNatClampNeg).toInt32)] [] I1 L1 R := by
        intro hv
        refine w_X1_takeInt_64 (cNoteH (d := d) ho g1 hf1 (by decide)) (fun I2 L2 R2 hq => ?_)
        obtain ⟨rfl, f2, g2⟩ := hq
        refine out I2 L2 _ (cF_tr f1 f2) g2 ?_
        unfold zInt
        rw [if_pos ⟨hf1, hv⟩, c1, e7]
      have cv : L 8 (I 3 2).toNatClampNeg = N (pt z) := by rw [e8, c1]
      refine w_X1_takeInt_52 (fun q1 => note (Or.inl (by rw [← cv]; exact q1))) (fun q1 => w_X1_takeInt_58 (fun q2 => ?_) (fun q2 => note (Or.inr (by rw [← cv]; exact Int32.not_le.mp q2))))
      rw [cv] at q1 q2
      refine out I1 L1 _ f1 g1 ?_
      unfold zInt
      rw [if_neg (fun e => by rcases e.2 with e | e; exact q1 e; exact absurd e (Int32.not_lt.mpr q2))]
  refine wkC_of 2 (by decide) (Nat.le_of_ble_eq_true rfl) (w_X1_takeInt_0 hR.1.1 hR.2.1.2.2.1 v1 hR.1.1 hR.2.1.2.2.2 v1 (fun q => w_X1_takeInt_41 (fin 0 (Or.inl rfl) (fun hf => ?_))) (fun q => w_X1_takeInt_37 (fin 1 (Or.inr rfl) (fun hf => ?_))))
  · rw [← (hz hf).2]
    rw [decide_eq_false q]
    rfl
  · rw [← (hz hf).2]
    rw [decide_eq_true q]
    rfl
theorem cNm_up {w : Nat → Int64} {x : Int64} {ns : List Int64} : ∀ {r : List Int64}, r.length ≤ ns.length → cNm w r → cNm (vp_updL w ns.length x) r
  | [], _, _ => trivial
  | y :: r, h, q => by
    rw [List.length_cons] at h
    refine ⟨?_, cNm_up (by omega) q.2⟩
    rw [← q.1]
    unfold vp_updL
    rw [if_neg (by omega)]
theorem cNm_in {w : Nat → Int64} {x : Int64} : ∀ {ns : List Int64}, cNm w ns → (x ∈ ns ↔ ∃ i, i < ns.length ∧ w i = x)
  | [], _ => ⟨fun h => (by cases h), fun ⟨i, h, _⟩ => (by cases h)⟩
  | y :: r, h => by
    rw [List.mem_cons, cNm_in h.2]
    constructor
    · rintro (rfl | ⟨i, h1, h2⟩)
      · exact ⟨r.length, by simp, h.1⟩
      · exact ⟨i, by simp; omega, h2⟩
    · rintro ⟨i, h1, h2⟩
      rw [List.length_cons] at h1
      by_cases e : i = r.length
      · subst e
        exact Or.inl (h2.symm.trans h.1)
      · exact Or.inr ⟨i, by omega, h2⟩
theorem cAddName (ho : o = 9 ∨ o = 259) (hR : cRf R o) (h : cH o K S N I L z) (hf : pf z = 0) (hn : z.2.2.1.length ≤ 11) {key : Int64} : wkCi l G (d + 1) n_X0_addName [.ref o, .long key] I L R (fun y I' L' R' => (key ∈ z.2.2.1 ∧ y = 0 ∧ cPo o K S N I L R z I' L' R') ∨ (key ∉ z.2.2.1 ∧ y = 1 ∧ cPo o K S N I L R (z.1, z.2.1, key :: z.2.2.1, z.2.2.2) I' L' R')) := by
  obtain ⟨hE, h1, h2, h3, h4, h5⟩ := id h
  obtain ⟨⟨a1, a2⟩, a3, n1, n2, n3⟩ := h4 hf
  have loop : ∀ (m : Nat) (a : Int32), (I o 1).toInt - a.toInt = m → 0 ≤ a.toInt → (∀ i : Nat, (i : Int) < a.toInt → L (o + 1) i ≠ key) → wkB l G (d + 1) n_X0_addName (fun r t I' L' R' => t = 336 ∧ ∃ y, r = some (.int y) ∧ ((key ∈ z.2.2.1 ∧ y = 0 ∧ cPo o K S N I L R z I' L' R') ∨ (key ∉ z.2.2.1 ∧ y = 1 ∧ cPo o K S N I L R (z.1, z.2.1, key :: z.2.2.1, z.2.2.2) I' L' R'))) 2 [.ref o, .long key, wkU, .int a] [] I L R := by
    intro m
    induction m with
    | zero =>
      intro a hm h0 hno
      have hnot : key ∉ z.2.2.1 := fun q => by
        obtain ⟨i, q1, q2⟩ := (cNm_in n1).mp q
        exact hno i (by omega) q2
      refine w_X0_addName_2 ho (fun _ => w_X0_addName_29 ho hR.2.2.1.1 (fun q => absurd (i_le.mp q) (by rw [show (12 : Int32).toInt = 12 from rfl]; omega)) (fun _ => ?_)) (fun q => absurd (i_le.mpr (by omega)) q)
      have e1 : (I o 1 + 1).toInt = (I o 1).toInt + 1 := i_s (by omega)
      have eo : ∀ k, k ≠ o → (qUp I o 1 (I o 1 + 1)) k = I k := fun k q => funext fun j => qUp_ne (fun x => q x.1)
      have eo2 : ∀ j, j ≠ 1 → (qUp I o 1 (I o 1 + 1)) o j = I o j := fun j q => qUp_ne (fun x => q x.2)
      have eo1 : (qUp I o 1 (I o 1 + 1)) o 1 = I o 1 + 1 := by rw [qUp_at, if_pos ⟨rfl, rfl⟩]
      have el : (I o 1).toNatClampNeg = z.2.2.1.length := by rw [tcn, n2, Int.toNat_natCast]
      have eL : ∀ k, k ≠ o + 1 → (qUpL L (o + 1) (I o 1).toNatClampNeg key) k = L k := fun k q => funext fun j => by rw [qUpL_at, if_neg (fun x => q x.1)]
      refine w_X0_addName_41 ho hR.2.2.1.1 (vin (by omega) (by omega)) (w_X0_addName_61 ho ⟨rfl, _, rfl, Or.inr ⟨hnot, rfl, rfl, ⟨fun k q1 q2 => eo k (by omega), fun j q => by rw [eo 3 (by omega)], eL, fun j _ => ⟨fun q => eo2 j (by omega), fun _ => by rw [eo (o + 6) (by omega)]⟩⟩, ⟨by rw [eo 6 (by omega)]; exact hE.1, by rw [eo 7 (by omega)]; exact hE.2.1, by rw [eL 8 (by omega)]; exact hE.2.2⟩, ?_, ?_, ?_, fun _ => ⟨?_, ?_, ⟨?_, ?_⟩, ?_, ?_, ?_⟩, ?_⟩⟩)
      · rw [eo 3 (by omega)]; exact h1
      · rw [eo 3 (by omega)]; exact h2
      · rw [eo 3 (by omega)]; exact h3
      · rw [eo 3 (by omega), eo 6 (by omega)]; exact ⟨a1, a2⟩
      · rw [eo 3 (by omega)]; exact a3
      · rw [qUpL_at, if_pos ⟨rfl, el.symm⟩]
      · have : (qUpL L (o + 1) (I o 1).toNatClampNeg key) (o + 1) = vp_updL (L (o + 1)) z.2.2.1.length key := by
          unfold qUpL qUpLF
          rw [if_pos rfl, el]
        rw [this]
        exact cNm_up (Nat.le_refl _) n1
      · rw [eo1, e1, n2]; rfl
      · rw [eo2 2 (by decide)]; exact n3.1
      · rw [eo2 5 (by decide)]; exact n3.2
      · unfold cBd at h5 ⊢
        rw [eo1, e1, eo2 2 (by decide), eo2 5 (by decide), eo (o + 6) (by omega)]
        exact ⟨by omega, h5.2⟩
    | succ m ih =>
      intro a hm h0 hno
      refine w_X0_addName_2 ho (fun q => absurd (i_le.mp q) (by omega)) (fun _ => ?_)
      have e1 : (a + 1).toInt = a.toInt + 1 := i_s (by omega)
      refine w_X0_addName_10 ho hR.2.2.1.1 (vin h0 (by omega)) (fun q => ?_) (fun q => ?_)
      · have q : ¬ L (o + 1) a.toNatClampNeg = key := fun x => q (lg_cmp0.mpr x)
        refine w_X0_addName_23 ho (ih (a + 1) (by omega) (by omega) (fun i hi => ?_))
        by_cases e : (i : Int) = a.toInt
        · have : a.toNatClampNeg = i := by rw [tcn]; omega
          rw [this] at q
          exact q
        · exact hno i (by omega)
      · have q := lg_cmp0.mp q
        exact w_X0_addName_21 ho ⟨rfl, _, rfl, Or.inl ⟨(cNm_in n1).mpr ⟨a.toNatClampNeg, by rw [tcn]; omega, q⟩, rfl, rfl, cF_rf o I L, h⟩⟩
  exact wkC_of 1 (by decide) (Nat.le_of_ble_eq_true rfl) (w_X0_addName_0 ho (loop (I o 1).toInt.toNat 0 (by rw [show (0 : Int32).toInt = 0 from rfl]; omega) (by decide) (fun i hi => by rw [show (0 : Int32).toInt = 0 from rfl] at hi; omega)))
end
