/-! ===== the reference's tape ===== -/
def yTp (I I' : qMI) : Prop := (∀ k, k ≠ 292 → k ≠ 293 → I' k = I k) ∧ ∀ j, j ≠ 2 → I' 292 j = I 292 j
theorem yTp_rf (I : qMI) : yTp I I := ⟨fun _ _ _ => rfl, fun _ _ => rfl⟩
theorem yTp_tr {I J K : qMI} (h : yTp I J) (g : yTp J K) : yTp I K := ⟨fun k a b => (g.1 k a b).trans (h.1 k a b), fun j a => (g.2 j a).trans (h.2 j a)⟩
theorem yTp_up {I : qMI} {k i : Nat} {x : Int32} (h : k = 293 ∨ (k = 292 ∧ i = 2)) : yTp I (qUp I k i x) := ⟨fun a _ _ => funext fun j => qUp_ne (fun q => by omega), fun j _ => qUp_ne (fun q => by omega)⟩
section
variable {l : Launch} {G : qG} {d : Nat} {I : qMI} {L : qML} {R : qMR}
end
