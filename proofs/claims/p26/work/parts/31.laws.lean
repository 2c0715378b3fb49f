/-! ===== the reference's termOf and lawTells: safe where the rows are good ===== -/
/-- what they may change: the pile, and whether it is broken -/
def yFr (I I' : qMI) : Prop := (∀ k, k ≠ 322 → k ≠ 292 → I' k = I k) ∧ (∀ j, j ≠ 47 → I' 292 j = I 292 j) ∧ (I' 292 47 = I 292 47 ∨ I' 292 47 = 0 ∨ I' 292 47 = 1)
theorem yFr_rf (I : qMI) : yFr I I := ⟨fun _ _ _ => rfl, fun _ _ => rfl, Or.inl rfl⟩
theorem yFr_tr {I J K : qMI} (h : yFr I J) (g : yFr J K) : yFr I K := ⟨fun k a b => (g.1 k a b).trans (h.1 k a b), fun j a => (g.2.1 j a).trans (h.2.1 j a), by
  rcases g.2.2 with e | e
  · rw [e]; exact h.2.2
  · exact Or.inr e⟩
theorem yFr_pile {I J : qMI} {j : Nat} {x : Int32} (h : yFr I J) : yFr I (qUp J 322 j x) := yFr_tr h ⟨fun k a _ => funext fun i => qUp_ne (fun q => a q.1), fun i _ => qUp_ne (fun q => by omega), Or.inl (qUp_ne (fun q => by omega))⟩
theorem yFr_brk {I J : qMI} {x : Int32} (hx : x = 0 ∨ x = 1) (h : yFr I J) : yFr I (qUp J 292 47 x) := yFr_tr h ⟨fun k _ b => funext fun i => qUp_ne (fun q => b q.1), fun i a => qUp_ne (fun q => a q.2), by rw [qUp_at, if_pos ⟨rfl, rfl⟩]; exact Or.inr hx⟩
section
variable {l : Launch} {G : qG} {d : Nat} {I : qMI} {L : qML} {R : qMR}
/-- the rows stay good under what may change -/
theorem yFr_seg {I J : qMI} (h : yFr I J) {f t : Int32} (hs : zseg I f t) : zseg J f t := by
  intro q
  have := hs q
  rw [h.1 318 (by decide) (by decide), h.1 319 (by decide) (by decide)]
  exact this
end
