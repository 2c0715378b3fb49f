/-! ===== reading ===== -/
/-- what holds of the reference's rows between two calls -/
def yRi (I : qMI) : Prop := (0 ≤ (I 292 2).toInt ∧ (I 292 2).toInt ≤ 2000) ∧ (∀ i, i < 403 → 0 ≤ (I 295 i).toInt ∧ (I 295 i).toInt ≤ 42) ∧ (∀ i, i < 2 → (0 ≤ (I 301 i).toInt ∧ (I 301 i).toInt ≤ 6) ∧ 0 ≤ (I 304 i).toInt ∧ (I 304 i).toInt ≤ 6) ∧ ∃ v : Nat, (v = 0 ∨ v = 1) ∧ (I 292 18).toInt = v ∧ zside I v ∧ zreg I v
def yRc (k : Nat) : Prop := k < 294 ∨ (297 < k ∧ k < 301) ∨ (320 < k ∧ k < 323) ∨ (324 < k ∧ k ≠ 334)
def yRj (j : Nat) : Prop := j ≠ 2 ∧ j ≠ 4 ∧ j ≠ 10 ∧ j ≠ 11 ∧ j ≠ 12 ∧ j ≠ 13 ∧ j ≠ 14 ∧ j ≠ 15 ∧ j ≠ 16 ∧ j ≠ 17 ∧ j ≠ 18 ∧ j ≠ 19 ∧ j ≠ 20 ∧ j ≠ 34 ∧ j ≠ 40 ∧ j ≠ 44 ∧ j ≠ 50 ∧ j ≠ 51 ∧ j ≠ 58
/-- what reading leaves -/
def yRp (I I' : qMI) : Prop := yRi I' ∧ (∀ k, k ≠ 292 → yRc k → I' k = I k) ∧ (∀ j, yRj j → I' 292 j = I 292 j) ∧ I' 292 2 = 0 ∧ (0 ≤ (I' 292 4).toInt ∧ (I' 292 4).toInt ≤ 2000) ∧ (0 ≤ (I' 292 10).toInt ∧ (I' 292 10).toInt ≤ 401) ∧ (0 ≤ (I' 292 11).toInt ∧ (I' 292 11).toInt ≤ 400) ∧ (0 ≤ (I' 292 19).toInt ∧ (I' 292 19).toInt ≤ 1) ∧ (I' 292 51 = I 292 51 ∨ I' 292 51 = 0) ∧ (I' 292 58 = I 292 58 ∨ I' 292 58 = 0)
/-- what stands when telling begins -/
def yRs (s v : Nat) (I J : qMI) : Prop := ((s = 0 ∨ s = 1) ∧ (v = 0 ∨ v = 1) ∧ s ≠ v) ∧ (∀ k, k ≠ 292 → (k < 294 ∨ (297 < k ∧ k < 301) ∨ 320 < k) → J k = I k) ∧ (∀ j, yRj j ∨ j = 18 ∨ j = 50 ∨ j = 51 ∨ j = 58 → J 292 j = I 292 j) ∧ J 292 2 = 0 ∧ (0 ≤ (J 292 4).toInt ∧ (J 292 4).toInt ≤ 2000) ∧ (0 ≤ (J 292 10).toInt ∧ (J 292 10).toInt ≤ 401) ∧ (∀ i, i < 403 → 0 ≤ (J 295 i).toInt ∧ (J 295 i).toInt ≤ 42) ∧ ((J 292 19).toInt = s ∧ (J 292 18).toInt = v) ∧ ((0 ≤ (J 301 v).toInt ∧ (J 301 v).toInt ≤ 6) ∧ 0 ≤ (J 304 v).toInt ∧ (J 304 v).toInt ≤ 6) ∧ zside J v ∧ zreg J v
theorem yPS_fields {s c br th se : Nat} {J K : qMI} (h : yPS s J K c br th se) : ∀ j, j ≠ 11 → j ≠ 12 → j ≠ 13 → j ≠ 14 → j ≠ 15 → j ≠ 16 → j ≠ 20 → j ≠ 34 → j ≠ 40 → j ≠ 44 → K 292 j = J 292 j := h.1.2.2.2.2.2
theorem yRend {s v w c br th se : Nat} {I J K K2 : qMI} {x1 : Nat} (h : yRs s v I J) (g : yPS s J K c br th se) (a1 : ∀ k, k ≠ 292 → k ≠ 323 → k ≠ 324 → k ≠ 334 → K2 k = K k) (a2 : ∀ j, j ≠ 17 → j ≠ 18 → j ≠ 50 → j ≠ 51 → j ≠ 58 → K2 292 j = K 292 j) (a3 : (w = 0 ∨ w = 1) ∧ (K2 292 18).toInt = w ∧ zside K w ∧ zreg K w) (a4 : K2 292 51 = K 292 51 ∨ K2 292 51 = 0) (a5 : K2 292 58 = K 292 58 ∨ K2 292 58 = 0) : yRp I K2 := by
  have gf := yPS_fields g
  obtain ⟨⟨hs, hv, hn⟩, h1, h2, h3, h4, h5, h6, ⟨h7, h8⟩, h9, h10⟩ := h
  obtain ⟨g1, ⟨⟨g2, -⟩, -⟩, -, ⟨g3, g4, g5, g6⟩, -⟩ := g
  have k295 : K2 295 = J 295 := (a1 295 (by decide) (by decide) (by decide) (by decide)).trans (g1.1 295 (by decide) (by decide))
  have k301 : K2 301 = K 301 := a1 301 (by decide) (by decide) (by decide) (by decide)
  have k304 : K2 304 = K 304 := a1 304 (by decide) (by decide) (by decide) (by decide)
  have f2 : K2 292 2 = 0 := (a2 2 (by decide) (by decide) (by decide) (by decide) (by decide)).trans ((gf 2 (by decide) (by decide) (by decide) (by decide) (by decide) (by decide) (by decide) (by decide) (by decide) (by decide)).trans h3)
  have f4 : K2 292 4 = J 292 4 := (a2 4 (by decide) (by decide) (by decide) (by decide) (by decide)).trans (gf 4 (by decide) (by decide) (by decide) (by decide) (by decide) (by decide) (by decide) (by decide) (by decide) (by decide))
  have f10 : K2 292 10 = J 292 10 := (a2 10 (by decide) (by decide) (by decide) (by decide) (by decide)).trans (gf 10 (by decide) (by decide) (by decide) (by decide) (by decide) (by decide) (by decide) (by decide) (by decide) (by decide))
  have f19 : K2 292 19 = J 292 19 := (a2 19 (by decide) (by decide) (by decide) (by decide) (by decide)).trans (gf 19 (by decide) (by decide) (by decide) (by decide) (by decide) (by decide) (by decide) (by decide) (by decide) (by decide))
  have f11 : K2 292 11 = K 292 11 := a2 11 (by decide) (by decide) (by decide) (by decide) (by decide)
  have f51 : K 292 51 = I 292 51 := (gf 51 (by decide) (by decide) (by decide) (by decide) (by decide) (by decide) (by decide) (by decide) (by decide) (by decide)).trans (h2 51 (by omega))
  have f58 : K 292 58 = I 292 58 := (gf 58 (by decide) (by decide) (by decide) (by decide) (by decide) (by decide) (by decide) (by decide) (by decide) (by decide)).trans (h2 58 (by omega))
  have hu : ∀ x ∈ zUN, K2 x = K x := fun x hx => by
    simp only [zUN, List.mem_cons, List.not_mem_nil, or_false] at hx
    exact a1 x (by omega) (by omega) (by omega) (by omega)
  refine ⟨⟨by rw [f2]; decide, by rw [k295]; exact h6, fun i hi => ?_, w, a3.1, a3.2.1, zside_congr hu a3.2.2.1, zreg_congr hu a3.2.2.2⟩, fun k b1 b2 => ?_, fun j b => ?_, f2, by rw [f4]; exact h4, by rw [f10]; exact h5, by rw [f11]; exact g2, by rw [f19]; omega, by rw [← f51]; exact a4, by rw [← f58]; exact a5⟩
  · rw [k301, k304]
    by_cases z : i = s
    · subst z
      omega
    · have y := g1.2.1 i z
      rw [y.1, y.2]
      have : i = v := by omega
      subst this
      exact h9
  · unfold yRc at b2
    exact (a1 k b1 (by omega) (by omega) (by omega)).trans ((g1.1 k b1 (by omega)).trans (h1 k b1 (by omega)))
  · have b' := b
    unfold yRj at b
    exact (a2 j (by omega) (by omega) (by omega) (by omega) (by omega)).trans ((gf j (by omega) (by omega) (by omega) (by omega) (by omega) (by omega) (by omega) (by omega) (by omega) (by omega)).trans (h2 j (Or.inl b')))
section
variable {l : Launch} {G : qG} {d : Nat} {I J : qMI} {R : qMR} {s v : Nat}
end
