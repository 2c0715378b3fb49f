/-! ===== one that is told ===== -/
/-- between two that are told: c steps, br branches, th THINGS, se SEATS of side s -/
def yPS (s : Nat) (I0 I : qMI) (c br th se : Nat) : Prop := yF s I0 I ∧ yCS (420 * s) c I ∧ ((I 292 34).toInt = br ∧ 130 * s ≤ br ∧ br ≤ 130 * s + 102) ∧ ((I 301 s).toInt = th ∧ (I 304 s).toInt = se ∧ th ≤ 6 ∧ se ≤ 6) ∧ (0 ≤ (I 292 20).toInt ∧ (I 292 20).toInt ≤ 12) ∧ (I 292 13 = 0 → (I 292 20).toInt = (th + se : Nat) ∧ 4 * ((br : Int) - (130 * s : Nat)) ≤ (I 292 11).toInt ∧ (∀ b, 130 * s ≤ b → b < br → yB (420 * s) I b (420 * s + c)) ∧ ∀ k, k < 5 → I 311 (5 * s + k) = I 312 (5 * s + k) ∨ ((130 * s : Nat) ≤ (I 311 (5 * s + k)).toInt ∧ (I 312 (5 * s + k)).toInt ≤ br))
theorem yPS_s {s c br th se : Nat} {I0 I J : qMI} (h : yPS s I0 I c br th se) (g : yS I J) : yPS s I0 J c br th se := by
  obtain ⟨h1, h2, ⟨h3, h4, h5⟩, ⟨h6, h7, h8, h9⟩, ⟨h10, h11⟩, h12⟩ := h
  have o := g.1.1
  have f := g.1.2
  have f20 := f 20 (by decide) (by decide) (by decide) (by decide) (by decide)
  have f34 := f 34 (by decide) (by decide) (by decide) (by decide) (by decide)
  refine ⟨yF_tr h1 (yF_t g.1), yCS_s h2 g, ⟨by rw [f34]; exact h3, h4, h5⟩, ⟨by rw [o 301 (by decide)]; exact h6, by rw [o 304 (by decide)]; exact h7, h8, h9⟩, by rw [f20]; exact ⟨h10, h11⟩, fun q => ?_⟩
  obtain ⟨q1, q2, q3, q4⟩ := h12 (yS_f0 g q)
  have t := g.2.2.1
  refine ⟨by rw [f20]; exact q1, by omega, fun b b1 b2 => ?_, fun k hk => ?_⟩
  · exact yB_congr (Nat.le_refl _) (fun i _ => ⟨by rw [o 318 (by decide)], by rw [o 319 (by decide)]⟩) ⟨by rw [o 313 (by decide)], by rw [o 314 (by decide)], by rw [o 315 (by decide)], by rw [o 316 (by decide)], by rw [o 317 (by decide)]⟩ (q3 b b1 b2)
  · rw [o 311 (by decide), o 312 (by decide)]; exact q4 k hk
/-- a write that none of it hangs on -/
theorem yPS_w {s c br th se k i : Nat} {I0 I : qMI} {x : Int32} (hk : 302 ≤ k ∧ k ≤ 310 ∧ k ≠ 304) (h : yPS s I0 I c br th se) : yPS s I0 (qUp I k i x) c br th se := by
  obtain ⟨h1, h2, h3, h4, h5, h6⟩ := h
  have o : ∀ a, a ≠ k → (qUp I k i x) a = I a := fun a ha => funext fun j => qUp_ne (fun q => ha q.1)
  have o292 := o 292 (by omega)
  refine ⟨yF_tr h1 (yF_up (by omega)), yCS_of h2 (fun j _ => by rw [o292]), by rw [o292]; exact h3, by rw [o 301 (by omega), o 304 (by omega)]; exact h4, by rw [o292]; exact h5, fun q => ?_⟩
  rw [o292] at q ⊢
  obtain ⟨q1, q2, q3, q4⟩ := h6 q
  refine ⟨q1, q2, fun b b1 b2 => ?_, fun j hj => by rw [o 311 (by omega), o 312 (by omega)]; exact q4 j hj⟩
  exact yB_congr (Nat.le_refl _) (fun i _ => ⟨by rw [o 318 (by omega)], by rw [o 319 (by omega)]⟩) ⟨by rw [o 313 (by omega)], by rw [o 314 (by omega)], by rw [o 315 (by omega)], by rw [o 316 (by omega)], by rw [o 317 (by omega)]⟩ (q3 b b1 b2)
theorem yf0 {I : qMI} (hk : yOk I) (q : I 292 13 ≤ 0) : I 292 13 = 0 := by
  have a := hk.2.1
  have b := i_le.mp q
  rw [show (0 : Int32).toInt = 0 from rfl] at b
  exact i_eq.mpr (by rw [show (0 : Int32).toInt = 0 from rfl]; omega)
section
variable {l : Launch} {G : qG} {d : Nat} {I I0 : qMI} {L : qML} {R : qMR} {s c br th se : Nat}
end
