/-! ===== reading ===== -/
/-- what holds of the reference's rows between two calls -/
def yRi (I : qMI) : Prop := (0 ≤ (I 292 2).toInt ∧ (I 292 2).toInt ≤ 2000) ∧ (∀ i, i < 403 → 0 ≤ (I 295 i).toInt ∧ (I 295 i).toInt ≤ 42) ∧ (∀ i, i < 2 → (0 ≤ (I 301 i).toInt ∧ (I 301 i).toInt ≤ 6) ∧ 0 ≤ (I 304 i).toInt ∧ (I 304 i).toInt ≤ 6) ∧ ∃ v : Nat, (v = 0 ∨ v = 1) ∧ (I 292 18).toInt = v ∧ zside I v ∧ zreg I v
def yRc (k : Nat) : Prop := k < 294 ∨ (297 < k ∧ k < 301) ∨ (320 < k ∧ k < 323) ∨ (324 < k ∧ k ≠ 334)
def yRj (j : Nat) : Prop := j ≠ 2 ∧ j ≠ 4 ∧ j ≠ 10 ∧ j ≠ 11 ∧ j ≠ 12 ∧ j ≠ 13 ∧ j ≠ 14 ∧ j ≠ 15 ∧ j ≠ 16 ∧ j ≠ 17 ∧ j ≠ 18 ∧ j ≠ 19 ∧ j ≠ 20 ∧ j ≠ 34 ∧ j ≠ 40 ∧ j ≠ 44 ∧ j ≠ 50 ∧ j ≠ 51 ∧ j ≠ 58
/-- what reading leaves -/
def yRp (I I' : qMI) : Prop := yRi I' ∧ (∀ k, k ≠ 292 → yRc k → I' k = I k) ∧ (∀ j, yRj j → I' 292 j = I 292 j) ∧ I' 292 2 = 0 ∧ (0 ≤ (I' 292 4).toInt ∧ (I' 292 4).toInt ≤ 2000) ∧ (0 ≤ (I' 292 10).toInt ∧ (I' 292 10).toInt ≤ 401) ∧ (0 ≤ (I' 292 11).toInt ∧ (I' 292 11).toInt ≤ 400) ∧ (0 ≤ (I' 292 19).toInt ∧ (I' 292 19).toInt ≤ 1) ∧ (I' 292 51 = I 292 51 ∨ I' 292 51 = 0) ∧ (I' 292 58 = I 292 58 ∨ I' 292 58 = 0)
/-- what stands when telling begins -/
def yRs (s v : Nat) (I J : qMI) : Prop := ((s = 0 ∨ s = 1) ∧ (v = 0 ∨ v = 1) ∧ s ≠ v) ∧ (∀ k, k ≠ 292 → (k < 294 ∨ (297 < k ∧ k < 301) ∨ 320 < k) → J k = I k) ∧ (∀ j, yRj j ∨ j = 18 ∨ j = 50 ∨ j = 51 ∨ j = 58 → J 292 j = I 292 j) ∧ J 292 2 = 0 ∧ (0 ≤ (J 292 4).toInt ∧ (J 292 4).toInt ≤ 2000) ∧ (0 ≤ (J 292 10).toInt ∧ (J 292 10).toInt ≤ 401) ∧ (∀ i, i < 403 → 0 ≤ (J 295 i).toInt ∧ (J 295 i).toInt ≤ 42) ∧ ((J 292 19).toInt = s ∧ (J 292 18).toInt = v) ∧ ((0 ≤ (J 301 v).toInt ∧ (J 301 v).toInt ≤ 6) ∧ 0 ≤ (J 304 v).toInt ∧ (J 304 v).toInt ≤ 6) ∧ zside J v ∧ zreg J v
theorem yPS_fields {s c br th se : Nat} {J K : qMI} (h : yPS s J K c br th se) : ∀ j, j ≠ 11 → j ≠ 12 → j ≠ 13 → j ≠ 14 → j ≠ 15 → j ≠ 16 → j ≠ 20 → j ≠ 34 → j ≠ 40 → j ≠ 44 → K 292 j = J 292 j := h.1.2.2.2.2.2
theorem yRend {s v w c br th se : Nat} {I J K K2 : qMI} {x1 : Nat} (h : yRs s v I J) (g : yPS s J K c br th se) (a1 : ∀ k, k ≠ 292 → k ≠ 323 → k ≠ 324 → k ≠ 334 → K2 k = K k) (a2 : ∀ j, j ≠ 17 → j ≠ 18 → j ≠ 50 → j ≠ 51 → j ≠ 58 → K2 292 j = K 292 j) (a3 : (w = 0 ∨ w = 1) ∧ (K2 292 18).toInt = w ∧ zside K w ∧ zreg K w) (a4 : K2 292 51 = K 292 51 ∨ K2 292 51 = 0) (a5 : K2 292 58 = K 292 58 ∨ K2 292 58 = 0) : yRp I K2 := by
  have gf := yPS_fields g
  obtain ⟨⟨hs, hv, hn⟩, h1, h2, h3, h4, h5, h6, ⟨h7, h8⟩, h9, h10⟩ := h
  obtain ⟨g1, ⟨⟨g2, -⟩, -⟩, -, ⟨g3, g4, g5, g6⟩, -⟩ := g
  have k295 : K2 295 = J 295 := (a1 295 (by decide) (by decide) (by decide) (by decide)).trans (g1.1 295 (by decide) (by decide))
  have k301 : K2 301 = K 301 := a1 301 (by decide) (by decide) (by decide) (by decide)
  have k304 : K2 304 = K 304 := a1 304 (by decide) (by decide) (by decide) (by decide)
  have f2 : K2 292 2 = 0 := (a2 2 (by decide) (by decide) (by decide) (by decide) (by decide)).trans ((gf 2 (by decide) (by decide) (by decide) (by decide) (by decide) (by decide) (by decide) (by decide) (by decide) (by decide)).trans h3)
  have f4 : K2 292 4 = J 292 4 := (a2 4 (by decide) (by decide) (by decide) (by decide) (by decide)).trans (gf 4 (by decide) (by decide) (by decide) (by decide) (by decide) (by decide) (by decide) (by decide) (by decide) (by decide))
  have f10 : K2 292 10 = J 292 10 := (a2 10 (by decide) (by decide) (by decide) (by decide) (by decide)).trans (gf 10 (by decide) (by decide) (by decide) (by decide) (by decide) (by decide) (by decide) (by decide) (by decide) (by decide))
  have f19 : K2 292 19 = J 292 19 := (a2 19 (by decide) (by decide) (by decide) (by decide) (by decide)).trans (gf 19 (by decide) (by decide) (by decide) (by decide) (by decide) (by decide) (by decide) (by decide) (by decide) (by decide))
  have f11 : K2 292 11 = K 292 11 := a2 11 (by decide) (by decide) (by decide) (by decide) (by decide)
  have f51 : K 292 51 = I 292 51 := (gf 51 (by decide) (by decide) (by decide) (by decide) (by decide) (by decide) (by decide) (by decide) (by decide) (by decide)).trans (h2 51 (by omega))
  have f58 : K 292 58 = I 292 58 := (gf 58 (by decide) (by decide) (by decide) (by decide) (by decide) (by decide) (by decide) (by decide) (by decide) (by decide)).trans (h2 58 (by omega))
  have hu : ∀ x ∈ zUN, K2 x = K x := fun x hx => by
    simp only [zUN, List.mem_cons, List.not_mem_nil, or_false] at hx
    exact a1 x (by omega) (by omega) (by omega) (by omega)
  refine ⟨⟨by rw [f2]; decide, by rw [k295]; exact h6, fun i hi => ?_, w, a3.1, a3.2.1, zside_congr hu a3.2.2.1, zreg_congr hu a3.2.2.2⟩, fun k b1 b2 => ?_, fun j b => ?_, f2, by rw [f4]; exact h4, by rw [f10]; exact h5, by rw [f11]; exact g2, by rw [f19]; omega, by rw [← f51]; exact a4, by rw [← f58]; exact a5⟩
  · rw [k301, k304]
    by_cases z : i = s
    · subst z
      omega
    · have y := g1.2.1 i z
      rw [y.1, y.2]
      have : i = v := by omega
      subst this
      exact h9
  · unfold yRc at b2
    exact (a1 k b1 (by omega) (by omega) (by omega)).trans ((g1.1 k b1 (by omega)).trans (h1 k b1 (by omega)))
  · have b' := b
    unfold yRj at b
    exact (a2 j (by omega) (by omega) (by omega) (by omega) (by omega)).trans ((gf j (by omega) (by omega) (by omega) (by omega) (by omega) (by omega) (by omega) (by omega) (by omega) (by omega)).trans (h2 j (Or.inl b')))
section
variable {l : Launch} {G : qG} {d : Nat} {I J : qMI} {R : qMR} {s v : Nat}
/-- behind the telling -/
theorem yReadEnd (hR : wkR R) (h : yRs s v I J) {K : qMI} {L : qML} {a : Int32} {c br th se : Nat} (g : yPS s J K c br th se) : wkB l G (d + 7 + 1) n_X9_read (wkPI R (fun _ I' _ => yRp I I')) 134 [.ref 292, .int a] [] K L R := by
  have hv := h.1.2.1
  have hs := h.1.1
  have hok := g.2.1.1
  have gf := yPS_fields g
  have e18 : K 292 18 = J 292 18 := gf 18 (by decide) (by decide) (by decide) (by decide) (by decide) (by decide) (by decide) (by decide) (by decide) (by decide)
  have e19 : K 292 19 = J 292 19 := gf 19 (by decide) (by decide) (by decide) (by decide) (by decide) (by decide) (by decide) (by decide) (by decide) (by decide)
  obtain ⟨x19, x18⟩ := h.2.2.2.2.2.2.2.1
  have old : zside K v ∧ zreg K v := yF_side h.1.2.2 g.1 h.2.2.2.2.2.2.2.2.2
  have bad : ∀ x : Int32, yRp I (qUp K 292 17 x) := fun x => yRend (x1 := 0) (w := v) h g (fun k b _ _ _ => funext fun i => qUp_ne (fun q => b q.1)) (fun j b _ _ _ _ => qUp_ne (fun q => b q.2)) ⟨hv, by rw [qUp_ne (by omega), e18]; exact x18, old⟩ (Or.inl (qUp_ne (by omega))) (Or.inl (qUp_ne (by omega)))
  have tail : ∀ x : Int32, wkB l G (d + 7 + 1) n_X9_read (wkPI R (fun _ I' _ => yRp I I')) 164 [.ref 292, .int a] [.int x, .ref 292] K L R := fun x => by
    refine w_X9_read_164 (fun f0 => ?_) (fun _ => w_X9_read_174 ⟨rfl, rfl, _, rfl, bad x⟩)
    rw [qUp_ne (by omega)] at f0
    have f0 := yf0 hok f0
    refine w_X9_read_179 (fun _ => ?_) (fun _ => w_X9_read_186 ⟨rfl, rfl, _, rfl, bad x⟩)
    have new := yPS_side hs g f0
    have d18 : (qUp (qUp K 292 17 x) 292 18 ((qUp K 292 17 x) 292 19)) 292 18 = K 292 19 := by rw [qUp_at, if_pos ⟨rfl, rfl⟩, qUp_ne (by omega)]
    have d304 : (qUp (qUp K 292 17 x) 292 18 ((qUp K 292 17 x) 292 19)) 304 = K 304 := funext fun i => by rw [qUp_ne (by omega), qUp_ne (by omega)]
    refine w_X9_read_191 (yBegins (d := d + 6) hR hs (by rw [d18, e19]; exact x19) (by rw [d304]; have := g.2.2.2.1; omega)) (fun I1 L1 hq => ?_)
    obtain ⟨rfl, q1⟩ := hq
    refine w_X9_read_203 (yKeeps (d := d + 6) hR) (fun I2 L2 hq => ?_)
    obtain ⟨rfl, q2⟩ := hq
    have good : ∀ K2 : qMI, yBg (qUp (qUp I2 292 51 0) 292 58 0) K2 → K2 292 51 = 0 → K2 292 58 = 0 → yRp I K2 := fun K2 q3 z1 z2 => by
      have t : yBg (qUp (qUp K 292 17 x) 292 18 ((qUp K 292 17 x) 292 19)) K2 := yBg_tr q1 (yBg_tr q2 (yBg_tr (yBg_tr (yBg_up (Or.inr (Or.inr (Or.inr ⟨rfl, Or.inr (Or.inl rfl)⟩)))) (yBg_up (Or.inr (Or.inr (Or.inr ⟨rfl, Or.inr (Or.inr rfl)⟩))))) q3))
      exact yRend (x1 := 0) (w := s) h g (fun k b1 b2 b3 b4 => (t.1 k b1 b2 b3 b4).trans (funext fun i => by rw [qUp_ne (fun q => b1 q.1), qUp_ne (fun q => b1 q.1)])) (fun j b1 b2 b3 b4 b5 => (t.2 j b3 b4 b5).trans (by rw [qUp_ne (fun q => b2 q.2), qUp_ne (fun q => b1 q.2)])) ⟨hs, by rw [t.2 18 (by decide) (by decide) (by decide), d18, e19]; exact x19, new⟩ (Or.inr z1) (Or.inr z2)
    have loop : ∀ (m : Nat) (K2 : qMI) (n : Int32), (3 - n.toInt).toNat = m → 0 ≤ n.toInt → yBg (qUp (qUp I2 292 51 0) 292 58 0) K2 → K2 292 51 = 0 → K2 292 58 = 0 → wkB l G (d + 7 + 1) n_X9_read (wkPI R (fun _ I' _ => yRp I I')) 219 [.ref 292, .int n] [] K2 L2 R := by
      intro m
      induction m with
      | zero =>
        intro K2 n hm n0 q3 z1 z2
        exact w_X9_read_219 (fun _ => w_X9_read_237 ⟨rfl, rfl, _, rfl, good K2 q3 z1 z2⟩) (fun q => absurd (i_le.mpr (by rw [show (3 : Int32).toInt = 3 from rfl]; omega)) q)
      | succ m ih =>
        intro K2 n hm n0 q3 z1 z2
        refine w_X9_read_219 (fun _ => w_X9_read_237 ⟨rfl, rfl, _, rfl, good K2 q3 z1 z2⟩) (fun q => ?_)
        have sn : (n + 1).toInt = n.toInt + 1 := i_s (by omega)
        exact w_X9_read_224 hR (vin n0 (by omega)) (ih _ (n + 1) (by omega) (by omega) (yBg_tr q3 (yBg_up (Or.inr (Or.inr (Or.inl rfl))))) (by rw [qUp_ne (by omega)]; exact z1) (by rw [qUp_ne (by omega)]; exact z2))
    exact w_X9_read_207 (loop _ _ 0 rfl (by decide) (yBg_rf _) (by rw [qUp_ne (by omega), qUp_at, if_pos ⟨rfl, rfl⟩]) (by rw [qUp_at, if_pos ⟨rfl, rfl⟩]))
  exact w_X9_read_134 (fun _ => w_X9_read_149 (fun _ => w_X9_read_163 (tail _)) (fun _ => w_X9_read_156 (tail _))) (fun _ => w_X9_read_142 (tail _))
/-- the telling -/
theorem yReadLoop (hR : wkR R) (h : yRs s v I J) {a : Int32} : ∀ (m : Nat) (K : qMI) (L : qML) (c br th se : Nat), (400 - (K 292 11).toInt).toNat = m → yPS s J K c br th se → wkB l G (d + 7 + 1) n_X9_read (wkPI R (fun _ I' _ => yRp I I')) 112 [.ref 292, .int a] [] K L R := by
  intro m
  induction m using Nat.strongRecOn with
  | ind m ih =>
    intro K L c br th se hm g
    refine w_X9_read_112 (fun _ => yReadEnd hR h g) (fun f0 => w_X9_read_119 (yIs (d := d + 6) hR g.2.1.1) (fun y I1 L1 hq => ?_))
    obtain ⟨rfl, rfl, -⟩ := hq
    refine w_X9_read_124 (fun _ => yReadEnd hR h g) (fun _ => w_X9_read_127 (yTellOne (d := d) hR h.1.1 h.2.2.2.2.2.2.2.1.1 (fun i hi => (h.2.2.2.2.2.2.1 i hi).1) g f0) (fun I2 L2 hq => w_X9_read_131 ?_))
    obtain ⟨c', br', th', se', g', t⟩ := hq
    by_cases z : I2 292 13 = 0
    · have := t z
      have := g'.2.1.1.1
      exact ih _ (by omega) I2 L2 c' br' th' se' rfl g'
    · exact w_X9_read_112 (fun _ => yReadEnd hR h g') (fun q => absurd q z)
end
