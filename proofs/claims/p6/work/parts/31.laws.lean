/-! ===== the reference's termOf and lawTells: safe where the rows are good ===== -/
/-- what they may change: the pile, and whether it is broken -/
def yFr (I I' : qMI) : Prop := (∀ k, k ≠ 322 → k ≠ 292 → I' k = I k) ∧ (∀ j, j ≠ 47 → I' 292 j = I 292 j) ∧ (I' 292 47 = I 292 47 ∨ I' 292 47 = 0 ∨ I' 292 47 = 1)
theorem yFr_rf (I : qMI) : yFr I I := ⟨fun _ _ _ => rfl, fun _ _ => rfl, Or.inl rfl⟩
theorem yFr_tr {I J K : qMI} (h : yFr I J) (g : yFr J K) : yFr I K := ⟨fun k a b => (g.1 k a b).trans (h.1 k a b), fun j a => (g.2.1 j a).trans (h.2.1 j a), by
  rcases g.2.2 with e | e
  · rw [e]; exact h.2.2
  · exact Or.inr e⟩
theorem yFr_pile {I J : qMI} {j : Nat} {x : Int32} (h : yFr I J) : yFr I (qUp J 322 j x) := yFr_tr h ⟨fun k a _ => funext fun i => qUp_ne (fun q => a q.1), fun i _ => qUp_ne (fun q => by omega), Or.inl (qUp_ne (fun q => by omega))⟩
theorem yFr_brk {I J : qMI} {x : Int32} (hx : x = 0 ∨ x = 1) (h : yFr I J) : yFr I (qUp J 292 47 x) := yFr_tr h ⟨fun k _ b => funext fun i => qUp_ne (fun q => b q.1), fun i a => qUp_ne (fun q => a q.2), by rw [qUp_at, if_pos ⟨rfl, rfl⟩]; exact Or.inr hx⟩
section
variable {l : Launch} {G : qG} {d : Nat} {I : qMI} {L : qML} {R : qMR}
theorem yTermLoop (hR : wkR R) {f t : Int32} (ht : t.toInt ≤ 840) : ∀ (n : Nat) (c top : Int32) (J : qMI), 0 ≤ c.toInt → (t.toInt - c.toInt).toNat = n → zrpn (I 318) (I 319) n c.toInt.toNat top.toInt.toNat → 0 ≤ top.toInt → top.toInt ≤ 400 → yFr I J →
    wkB l G (d + 1) n_X9_termOf (wkPI R (fun _ I' L' => L' = L ∧ yFr I I')) 5 [.ref 292, .int f, .int t, .int top, .int c, wkU, wkU, wkU] [] J L R := by
  intro n
  induction n with
  | zero =>
    intro c top J h0 hn hz ht0 ht4 hJ
    refine w_X9_termOf_5 (fun _ => ?_) (fun h => absurd (i_le.mpr (by omega)) h)
    exact w_X9_termOf_165 hR (vin (by decide) (by decide)) ⟨rfl, rfl, _, rfl, rfl, hJ⟩
  | succ n ih =>
    intro c top J h0 hn hz ht0 ht4 hJ
    refine w_X9_termOf_5 (fun h => absurd (i_le.mp h) (by omega)) (fun _ => ?_)
    have hc : vp_in c 840 := vin h0 (by omega)
    have e8 : J 318 = I 318 := hJ.1 318 (by decide) (by decide)
    have e9 : J 319 = I 319 := hJ.1 319 (by decide) (by decide)
    have hs : (c + 1).toInt = c.toInt + 1 := i_s (by omega)
    refine w_X9_termOf_11 hR hc (fun h2 => ?_) (fun h2 => ?_)
    · rw [e8, tcn] at h2 ⊢
      unfold zrpn at hz
      rw [if_neg (fun q => by have := i_lt.mp q; have := i_le.mp h2; omega)] at hz
      obtain ⟨g1, g2, g3⟩ := hz
      generalize hk : I 318 c.toInt.toNat = k at h2 g2 ⊢
      have hp : (top + (-1)).toInt = top.toInt - 1 := i_p (by omega)
      have hp2 : (top + (-1) - 1).toInt = top.toInt - 2 := by rw [i_p' (by omega)]; omega
      generalize hq : top + (-1) = top1 at hp hp2 ⊢
      have go : ∀ x y : Int32, ∀ s : Int32, ∀ v : Int32, s.toInt = top.toInt - 2 → wkB l G (d + 1) n_X9_termOf (wkPI R (fun _ I' L' => L' = L ∧ yFr I I')) 158 [.ref 292, .int f, .int t, .int top1, .int c, .int k, .int x, .int y] [.int v, .int s, .ref 322] J L R := by
        intro x y s v hs2
        refine w_X9_termOf_158 (vin (by omega) (by omega)) (w_X9_termOf_159 (ih (c + 1) top1 _ (by omega) (by omega) ?_ (by omega) (by omega) (yFr_pile hJ)))
        rw [hs, show (c.toInt + 1).toNat = c.toInt.toNat + 1 by omega, hp, show (top.toInt - 1).toNat = top.toInt.toNat - 1 by omega]
        exact g3
      have fork : ∀ x y : Int32, (¬ k = 5 ∨ ¬ y = 0) → wkB l G (d + 1) n_X9_termOf (wkPI R (fun _ I' L' => L' = L ∧ yFr I I')) 104 [.ref 292, .int f, .int t, .int top1, .int c, .int k, .int x, .int y] [] J L R := by
        intro x y hxy
        refine w_X9_termOf_104 hR (fun n2 => w_X9_termOf_125 (fun n3 => w_X9_termOf_139 (fun n4 => w_X9_termOf_153 ?_ (go x y _ _ hp2)) (fun _ => w_X9_termOf_145 (go x y _ _ hp2))) (fun _ => w_X9_termOf_131 (go x y _ _ hp2))) (fun _ => w_X9_termOf_117 (go x y _ _ hp2))
        rcases hxy with hx | hx
        · exfalso
          have a1 := i_le.mp h2
          have a2 := i_le.mp g2
          have a3 : ¬ k.toInt = 2 := fun q => n2 (i_eq.mpr q)
          have a4 : ¬ k.toInt = 3 := fun q => n3 (i_eq.mpr q)
          have a5 : ¬ k.toInt = 4 := fun q => n4 (i_eq.mpr q)
          have a6 : ¬ k.toInt = 5 := fun q => hx (i_eq.mpr q)
          rw [show (2 : Int32).toInt = 2 from rfl] at a1
          rw [show (5 : Int32).toInt = 5 from rfl] at a2
          omega
        · exact hx
      refine w_X9_termOf_65 (a3 := top) hR (by rw [hq]; exact vin (by omega) (by omega)) (by rw [hq]; exact vin (by omega) (by omega)) (fun h5 => ?_) (fun h5 => w_X9_termOf_92 (fun h => ?_) (fun h => w_X9_termOf_97 ⟨rfl, rfl, _, rfl, rfl, yFr_brk (Or.inr rfl) hJ⟩))
      · rw [hq]; exact fork _ _ (Or.inl h5)
      · rw [hq] at h ⊢; exact fork _ _ (Or.inr h)
    · rw [e8, tcn] at h2 ⊢
      unfold zrpn at hz
      have h2' : I 318 c.toInt.toNat < 2 := i_lt.mpr (by have : ¬ _ := fun q => h2 (i_le.mpr q); omega)
      rw [if_pos h2'] at hz
      obtain ⟨⟨g1, g2⟩, g3⟩ := hz
      have ht1 : (top + 1).toInt = top.toInt + 1 := i_s (by omega)
      have htop : vp_in top 400 := vin ht0 (by omega)
      have go : ∀ v : Int32, wkB l G (d + 1) n_X9_termOf (wkPI R (fun _ I' L' => L' = L ∧ yFr I I')) 58 [.ref 292, .int f, .int t, .int top, .int c, .int (I 318 c.toInt.toNat), wkU, wkU] [.int v, .int top, .ref 322] J L R := by
        intro v
        refine w_X9_termOf_58 htop (w_X9_termOf_159 (ih (c + 1) (top + 1) _ (by omega) (by omega) ?_ (by omega) (by omega) (yFr_pile hJ)))
        rw [hs, show (c.toInt + 1).toNat = c.toInt.toNat + 1 by omega, ht1, show (top.toInt + 1).toNat = top.toInt.toNat + 1 by omega]
        exact g3
      refine w_X9_termOf_26 hR (fun n0 => w_X9_termOf_46 hR hc (by rw [e9, tcn]; exact g2 n0) (go _)) (fun _ => w_X9_termOf_36 hR hc (go _))
theorem yTermOf (hR : wkR R) {f t : Int32} (hs : zseg I f t) : wkI l G (d + 1) n_X9_termOf [.ref 292, .int f, .int t] I L R (fun _ I' L' => L' = L ∧ yFr I I') := by
  refine wkC_of 5 (by decide) (Nat.le_of_ble_eq_true rfl) (w_X9_termOf_0 ?_)
  by_cases h : f < t
  · obtain ⟨⟨h1, h2⟩, h3⟩ := hs h
    exact yTermLoop hR h2 _ f 0 I (by have := i_le.mp h1; simpa using this) rfl h3 (by decide) (by decide) (yFr_rf I)
  · refine w_X9_termOf_5 (fun _ => ?_) (fun q => absurd (i_le.mpr (by have : ¬ _ := fun q => h (i_lt.mpr q); omega)) q)
    exact w_X9_termOf_165 hR (vin (by decide) (by decide)) ⟨rfl, rfl, _, rfl, rfl, yFr_rf I⟩
/-- the rows stay good under what may change -/
theorem yFr_seg {I J : qMI} (h : yFr I J) {f t : Int32} (hs : zseg I f t) : zseg J f t := by
  intro q
  have := hs q
  rw [h.1 318 (by decide) (by decide), h.1 319 (by decide) (by decide)]
  exact this
theorem yLawLoop (hR : wkR R) {k p at_ : Int32} (ha : vp_in at_ 10) (hl : zlaw I at_.toNatClampNeg) (hlt : I 311 at_.toNatClampNeg < I 312 at_.toNatClampNeg) : ∀ (n : Nat) (b : Int32) (J : qMI), (I 311 at_.toNatClampNeg).toInt ≤ b.toInt → ((I 312 at_.toNatClampNeg).toInt - b.toInt).toNat = n → yFr I J →
    wkB l G (d + 1 + 1) n_X9_lawTells (wkPI R (fun _ I' L' => L' = L ∧ yFr I I')) 39 [.ref 292, .int k, .int p, .int at_, .int b, wkU, wkU] [] J L R := by
  obtain ⟨⟨g1, g2⟩, g3⟩ := hl hlt
  have g1 := i_le.mp g1
  rw [show (0 : Int32).toInt = 0 from rfl] at g1
  intro n
  induction n with
  | zero =>
    intro b J hb hn hJ
    refine w_X9_lawTells_39 hR ha (fun _ => w_X9_lawTells_159 ⟨rfl, rfl, _, rfl, rfl, hJ⟩) (fun h => absurd (i_le.mpr ?_) h)
    rw [hJ.1 312 (by decide) (by decide)]
    omega
  | succ n ih =>
    intro b J hb hn hJ
    refine w_X9_lawTells_39 hR ha (fun h => ?_) (fun _ => ?_)
    · rw [hJ.1 312 (by decide) (by decide)] at h
      have := i_le.mp h
      omega
    have hbi : vp_in b 260 := vin (by omega) (by omega)
    obtain ⟨s1, s2⟩ := g3 b.toInt.toNat (by omega) (by omega)
    have next : ∀ (x y : Value) (J' : qMI), yFr I J' → wkB l G (d + 1 + 1) n_X9_lawTells (wkPI R (fun _ I' L' => L' = L ∧ yFr I I')) 39 [.ref 292, .int k, .int p, .int at_, .int (b + 1), wkU, wkU] [] J' L R := fun x y J' hJ' => ih (b + 1) J' (by rw [i_s (by omega)]; omega) (by rw [i_s (by omega)]; omega) hJ'
    have e : ∀ (J' : qMI), yFr I J' → J' 313 = I 313 ∧ J' 314 = I 314 ∧ J' 315 = I 315 ∧ J' 316 = I 316 ∧ J' 317 = I 317 := fun J' h => ⟨h.1 313 (by decide) (by decide), h.1 314 (by decide) (by decide), h.1 315 (by decide) (by decide), h.1 316 (by decide) (by decide), h.1 317 (by decide) (by decide)⟩
    have tail : ∀ (J' : qMI), yFr I J' → wkB l G (d + 1 + 1) n_X9_lawTells (wkPI R (fun _ I' L' => L' = L ∧ yFr I I')) 119 [.ref 292, .int k, .int p, .int at_, .int b, wkU, wkU] [] J' L R := by
      intro J' hJ'
      obtain ⟨-, -, -, e6, e7⟩ := e J' hJ'
      refine w_X9_lawTells_119 hR hbi hbi (yTermOf (d := d) hR (yFr_seg hJ' (by rw [e6, e7, tcn]; exact s2))) (fun y I1 L1 hq => ?_)
      obtain ⟨rfl, hF⟩ := hq
      have hF := yFr_tr hJ' hF
      exact w_X9_lawTells_137 (fun _ => w_X9_lawTells_150 (w_X9_lawTells_152 ⟨rfl, rfl, _, rfl, rfl, hF⟩)) (fun _ => w_X9_lawTells_146 (w_X9_lawTells_152 ⟨rfl, rfl, _, rfl, rfl, hF⟩))
    obtain ⟨e3, e4, e5, e6, e7⟩ := e J hJ
    refine w_X9_lawTells_50 hR hbi (fun _ => tail J hJ) (fun h => ?_)
    rw [e3, tcn] at h
    obtain ⟨u1, u2⟩ := s1 h
    refine w_X9_lawTells_60 hR hbi hbi (yTermOf (d := d) hR (yFr_seg hJ (by rw [e4, e5, tcn]; exact u1))) (fun y I1 L1 hq => ?_)
    obtain ⟨rfl, hF⟩ := hq
    have hF := yFr_tr hJ hF
    obtain ⟨-, -, e5, e6, -⟩ := e I1 hF
    refine w_X9_lawTells_78 hR hbi hbi (yTermOf (d := d) hR (yFr_seg hF (by rw [e5, e6, tcn]; exact u2))) (fun y2 I2 L2 hq => ?_)
    obtain ⟨rfl, hF2⟩ := hq
    have hF2 := yFr_tr hF hF2
    exact w_X9_lawTells_98 (fun _ => w_X9_lawTells_109 (fun _ => tail I2 hF2) (fun _ => w_X9_lawTells_116 (w_X9_lawTells_153 (next (.int y) (.int y2) I2 hF2)))) (fun _ => w_X9_lawTells_107 ⟨rfl, rfl, _, rfl, rfl, hF2⟩)
theorem yLawTells (hR : wkR R) {k p : Int32} (hk0 : 0 ≤ k.toInt) (hk5 : k.toInt < 5) (hg : zGood (I, L, R)) : wkI l G (d + 2) n_X9_lawTells [.ref 292, .int k, .int p] I L R (fun _ I' L' => L' = L ∧ yFr I I') := by
  have hat : ∃ s : Nat, (s = 0 ∨ s = 1) ∧ ((5 * I 292 18) + k).toInt = 5 * s + k.toInt ∧ zside I s := by
    rcases hg with ⟨h1, h2, -⟩ | ⟨h1, h2, -⟩
    · refine ⟨0, Or.inl rfl, ?_, h2⟩
      rw [show I 292 18 = 0 from h1, i_add] <;> rw [show ((5 : Int32) * 0).toInt = 0 from rfl] <;> omega
    · refine ⟨1, Or.inr rfl, ?_, h2⟩
      rw [show I 292 18 = 1 from h1, i_add] <;> rw [show ((5 : Int32) * 1).toInt = 5 from rfl] <;> omega
  obtain ⟨s, hs, ha, hside⟩ := hat
  have hin : vp_in ((5 * I 292 18) + k) 10 := vin (by omega) (by omega)
  have hl : zlaw I ((5 * I 292 18) + k).toNatClampNeg := by
    have := hside k.toInt.toNat (by omega)
    rwa [show 5 * s + k.toInt.toNat = ((5 * I 292 18) + k).toNatClampNeg by rw [tcn]; omega] at this
  refine wkC_of 4 (by decide) (Nat.le_of_ble_eq_true rfl) (w_X9_lawTells_0 hR hin hin (fun hne => ?_) (fun _ => w_X9_lawTells_24 ⟨rfl, rfl, _, rfl, rfl, yFr_rf I⟩))
  generalize (5 * I 292 18) + k = at_ at hin hl hne ⊢
  have hB := yFr_brk (x := 0) (Or.inl rfl) (yFr_rf I)
  refine w_X9_lawTells_26 hR hin ?_
  rw [hB.1 311 (by decide) (by decide)]
  by_cases hlt : I 311 at_.toNatClampNeg < I 312 at_.toNatClampNeg
  · exact yLawLoop hR hin hl hlt _ _ _ (Int.le_refl _) rfl hB
  · refine w_X9_lawTells_39 hR hin (fun _ => w_X9_lawTells_159 ⟨rfl, rfl, _, rfl, rfl, hB⟩) (fun h => absurd (i_le.mpr ?_) h)
    rw [hB.1 312 (by decide) (by decide)]
    have : ¬ _ := fun q => hlt (i_lt.mpr q)
    omega
end
