/-! ===== the reference's parser: the token that it stands at ===== -/
/-- only the token's place and the faults are others -/
def yT (I I' : qMI) : Prop := (∀ k, k ≠ 292 → I' k = I k) ∧ (∀ j, j ≠ 11 → j ≠ 13 → j ≠ 14 → j ≠ 15 → j ≠ 16 → I' 292 j = I 292 j)
theorem yT_rf (I : qMI) : yT I I := ⟨fun _ _ => rfl, fun _ _ _ _ _ _ => rfl⟩
theorem yT_tr {I J K : qMI} (h : yT I J) (g : yT J K) : yT I K := ⟨fun k a => (g.1 k a).trans (h.1 k a), fun j a b c d e => (g.2 j a b c d e).trans (h.2 j a b c d e)⟩
theorem yT_up {I : qMI} {j : Nat} {x : Int32} (hj : j = 11 ∨ j = 13 ∨ j = 14 ∨ j = 15 ∨ j = 16) : yT I (qUp I 292 j x) := ⟨fun k a => funext fun i => qUp_ne (fun q => a q.1), fun i a b c d e => qUp_ne (fun q => by omega)⟩
/-- all is in its bounds -/
def yOk (I : qMI) : Prop := (0 ≤ (I 292 11).toInt ∧ (I 292 11).toInt ≤ 400) ∧ (0 ≤ (I 292 13).toInt ∧ (I 292 13).toInt ≤ 2)
/-- so far on, and a fault stays -/
def yS (I I' : qMI) : Prop := yT I I' ∧ yOk I' ∧ (I 292 11).toInt ≤ (I' 292 11).toInt ∧ (I 292 13 ≠ 0 → I' 292 13 ≠ 0)
theorem yS_rf {I : qMI} (h : yOk I) : yS I I := ⟨yT_rf I, h, Int.le_refl _, id⟩
theorem yS_tr {I J K : qMI} (h : yS I J) (g : yS J K) : yS I K := ⟨yT_tr h.1 g.1, g.2.1, Int.le_trans h.2.2.1 g.2.2.1, fun q => g.2.2.2 (h.2.2.2 q)⟩
theorem yS_f0 {I I' : qMI} (h : yS I I') (q : I' 292 13 = 0) : I 292 13 = 0 := Decidable.byContradiction fun n => h.2.2.2 n q
/-- and one token on, if there is no fault -/
def yN (I I' : qMI) : Prop := yS I I' ∧ (I' 292 13 = 0 → (I' 292 11).toInt = (I 292 11).toInt + 1)
theorem yOk_t {I : qMI} (h : yOk I) : vp_in (I 292 11) 403 := vin h.1.1 (by have := h.1.2; omega)
section
variable {l : Launch} {G : qG} {d : Nat} {I : qMI} {L : qML} {R : qMR}
theorem yIs (hR : wkR R) (hk : yOk I) {k : Int32} : wkI l G (d + 1) n_X9_is [.ref 292, .int k] I L R (fun y I' L' => L' = L ∧ I' = I ∧ ((y = 1 ∧ I 292 13 = 0 ∧ I 295 (I 292 11).toNatClampNeg = k) ∨ (y = 0 ∧ ¬ (I 292 13 = 0 ∧ I 295 (I 292 11).toNatClampNeg = k)))) := by
  refine wkC_of 0 (by decide) (Nat.le_of_ble_eq_true rfl) (w_X9_is_0 (fun hf => w_X9_is_24 (w_X9_is_25 ⟨rfl, rfl, _, rfl, rfl, rfl, Or.inr ⟨rfl, fun q => hf q.1⟩⟩ (Or.inl rfl))) (fun hf => w_X9_is_7 hR (yOk_t hk) (fun h => w_X9_is_24 (w_X9_is_25 ⟨rfl, rfl, _, rfl, rfl, rfl, Or.inr ⟨rfl, fun q => h q.2⟩⟩ (Or.inl rfl))) (fun h => w_X9_is_20 (w_X9_is_25 ⟨rfl, rfl, _, rfl, rfl, rfl, Or.inl ⟨rfl, hf, h⟩⟩ (Or.inr rfl)))))
end
