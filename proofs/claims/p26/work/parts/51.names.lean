/-! ===== names and numbers that are told ===== -/
section
variable {l : Launch} {G : qG} {d : Nat} {I : qMI} {L : qML} {R : qMR}
end
/-! ===== the state between two that are told ===== -/
/-- what side s of the rows may hold else; the rest stays -/
def yF (s : Nat) (I0 I : qMI) : Prop := (∀ k, k ≠ 292 → (k < 301 ∨ 320 < k) → I k = I0 k) ∧ (∀ i, i ≠ s → I 301 i = I0 301 i ∧ I 304 i = I0 304 i) ∧ (∀ i, (i < 5 * s ∨ 5 * s + 5 ≤ i) → I 311 i = I0 311 i ∧ I 312 i = I0 312 i) ∧ (∀ i, (i < 130 * s ∨ 130 * s + 130 ≤ i) → I 313 i = I0 313 i ∧ I 314 i = I0 314 i ∧ I 315 i = I0 315 i ∧ I 316 i = I0 316 i ∧ I 317 i = I0 317 i) ∧ (∀ i, (i < 420 * s ∨ 420 * s + 420 ≤ i) → I 318 i = I0 318 i ∧ I 319 i = I0 319 i) ∧ (∀ j, j ≠ 11 → j ≠ 12 → j ≠ 13 → j ≠ 14 → j ≠ 15 → j ≠ 16 → j ≠ 20 → j ≠ 34 → j ≠ 40 → j ≠ 44 → I 292 j = I0 292 j)
theorem yF_rf (s : Nat) (I : qMI) : yF s I I := ⟨fun _ _ _ => rfl, fun _ _ => ⟨rfl, rfl⟩, fun _ _ => ⟨rfl, rfl⟩, fun _ _ => ⟨rfl, rfl, rfl, rfl, rfl⟩, fun _ _ => ⟨rfl, rfl⟩, fun _ _ _ _ _ _ _ _ _ _ _ => rfl⟩
theorem yF_tr {s : Nat} {I J K : qMI} (h : yF s I J) (g : yF s J K) : yF s I K := by
  refine ⟨fun k a b => (g.1 k a b).trans (h.1 k a b), fun i a => ⟨(g.2.1 i a).1.trans (h.2.1 i a).1, (g.2.1 i a).2.trans (h.2.1 i a).2⟩, fun i a => ⟨(g.2.2.1 i a).1.trans (h.2.2.1 i a).1, (g.2.2.1 i a).2.trans (h.2.2.1 i a).2⟩, fun i a => ?_, fun i a => ⟨(g.2.2.2.2.1 i a).1.trans (h.2.2.2.2.1 i a).1, (g.2.2.2.2.1 i a).2.trans (h.2.2.2.2.1 i a).2⟩, fun j a1 a2 a3 a4 a5 a6 a7 a8 a9 a10 => (g.2.2.2.2.2 j a1 a2 a3 a4 a5 a6 a7 a8 a9 a10).trans (h.2.2.2.2.2 j a1 a2 a3 a4 a5 a6 a7 a8 a9 a10)⟩
  obtain ⟨x1, x2, x3, x4, x5⟩ := g.2.2.2.1 i a
  obtain ⟨y1, y2, y3, y4, y5⟩ := h.2.2.2.1 i a
  exact ⟨x1.trans y1, x2.trans y2, x3.trans y3, x4.trans y4, x5.trans y5⟩
theorem yF_l {s c0 b0 : Nat} {I J : qMI} (hc : 420 * s ≤ c0) (hb : 130 * s ≤ b0) (h : yL (420 * s) (130 * s) c0 b0 I J) : yF s I J := ⟨fun k a b => h.1 k a (by omega), fun i _ => ⟨by rw [h.1 301 (by decide) (by decide)], by rw [h.1 304 (by decide) (by decide)]⟩, fun i _ => ⟨by rw [h.1 311 (by decide) (by decide)], by rw [h.1 312 (by decide) (by decide)]⟩, fun i a => h.2.1 i (by omega), fun i a => h.2.2.1 i (by omega), fun j a1 a2 a3 a4 a5 a6 _ a8 a9 a10 => h.2.2.2 j a1 a2 a3 a4 a5 a6 a8 a9 a10⟩
theorem yF_t {s : Nat} {I J : qMI} (h : yT I J) : yF s I J := yF_l (c0 := 420 * s) (b0 := 130 * s) (Nat.le_refl _) (Nat.le_refl _) (yL_t h)
/-- a write into the side's own place, or one that doesn't count -/
theorem yF_up {s k i : Nat} {I : qMI} {x : Int32} (h : (k = 292 ∧ i = 20) ∨ ((k = 301 ∨ k = 304) ∧ i = s) ∨ (302 ≤ k ∧ k ≤ 310 ∧ k ≠ 304) ∨ ((k = 311 ∨ k = 312) ∧ 5 * s ≤ i ∧ i < 5 * s + 5)) : yF s I (qUp I k i x) := ⟨fun a b c => funext fun j => qUp_ne (fun q => by omega), fun j a => ⟨qUp_ne (fun q => by omega), qUp_ne (fun q => by omega)⟩, fun j a => ⟨qUp_ne (fun q => by omega), qUp_ne (fun q => by omega)⟩, fun j _ => ⟨qUp_ne (fun q => by omega), qUp_ne (fun q => by omega), qUp_ne (fun q => by omega), qUp_ne (fun q => by omega), qUp_ne (fun q => by omega)⟩, fun j _ => ⟨qUp_ne (fun q => by omega), qUp_ne (fun q => by omega)⟩, fun j _ _ _ _ _ _ _ _ _ _ => qUp_ne (fun q => by omega)⟩
