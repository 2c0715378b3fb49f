/-! ===== reading: what comes behind the telling ===== -/
def yBg (I I' : qMI) : Prop := (∀ k, k ≠ 292 → k ≠ 323 → k ≠ 324 → k ≠ 334 → I' k = I k) ∧ ∀ j, j ≠ 50 → j ≠ 51 → j ≠ 58 → I' 292 j = I 292 j
theorem yBg_rf (I : qMI) : yBg I I := ⟨fun _ _ _ _ _ => rfl, fun _ _ _ _ => rfl⟩
theorem yBg_tr {I J K : qMI} (h : yBg I J) (g : yBg J K) : yBg I K := ⟨fun k a b c e => (g.1 k a b c e).trans (h.1 k a b c e), fun j a b c => (g.2 j a b c).trans (h.2 j a b c)⟩
theorem yBg_up {I : qMI} {k i : Nat} {x : Int32} (h : k = 323 ∨ k = 324 ∨ k = 334 ∨ (k = 292 ∧ (i = 50 ∨ i = 51 ∨ i = 58))) : yBg I (qUp I k i x) := ⟨fun a _ _ _ _ => funext fun j => qUp_ne (fun q => by omega), fun j _ _ _ => qUp_ne (fun q => by omega)⟩
section
variable {l : Launch} {G : qG} {d : Nat} {I I0 : qMI} {L : qML} {R : qMR}
theorem yKeeps (hR : wkR R) : wkV l G (d + 1) n_X9_keepsRow [.ref 292] I L R (fun I' L' => L' = L ∧ yBg I I') := by
  have loop : ∀ (m : Nat) (J : qMI) (n : Int32), (97 - n.toInt).toNat = m → 0 ≤ n.toInt → yBg I J → wkB l G (d + 1) n_X9_keepsRow (wkPV R (fun I' L' => L' = L ∧ yBg I I')) 2 [.ref 292, .int n] [] J L R := by
    intro m
    induction m with
    | zero =>
      intro J n hm n0 h
      exact w_X9_keepsRow_2 (fun _ => w_X9_keepsRow_26 ⟨rfl, rfl, rfl, rfl, h⟩) (fun q => absurd (i_le.mpr (by rw [show (97 : Int32).toInt = 97 from rfl]; omega)) q)
    | succ m ih =>
      intro J n hm n0 h
      refine w_X9_keepsRow_2 (fun _ => w_X9_keepsRow_26 ⟨rfl, rfl, rfl, rfl, h⟩) (fun q => ?_)
      have vn : vp_in n 97 := vin n0 (by omega)
      have sn : (n + 1).toInt = n.toInt + 1 := i_s (by omega)
      exact w_X9_keepsRow_8 hR vn vn (ih _ (n + 1) (by omega) (by omega) (yBg_tr h (yBg_up (Or.inl rfl))))
  exact wkC_of 1 (by decide) (Nat.le_of_ble_eq_true rfl) (w_X9_keepsRow_0 (loop _ I 0 rfl (by decide) (yBg_rf I)))
theorem yBegins (hR : wkR R) {v : Nat} (hv : v = 0 ∨ v = 1) (h18 : (I 292 18).toInt = v) (h4 : (I 304 v).toInt ≤ 6) : wkV l G (d + 1) n_X9_begins [.ref 292] I L R (fun I' L' => L' = L ∧ yBg I I') := by
  have v2 : vp_in (I 292 18) 2 := vin (by omega) (by omega)
  have ev : (I 292 18).toNatClampNeg = v := by rw [tcn, h18]; rfl
  have m6 : ((6 : Int32) * I 292 18).toInt = 6 * (v : Int) := by
    rw [i_mul (by rw [show (6 : Int32).toInt = 6 from rfl]; omega) (by rw [show (6 : Int32).toInt = 6 from rfl]; omega), h18]; rfl
  have loop2 : ∀ (m : Nat) (J : qMI) (n : Int32), (6 - n.toInt).toNat = m → 0 ≤ n.toInt → n.toInt ≤ 6 → yBg I J → wkB l G (d + 1) n_X9_begins (wkPV R (fun I' L' => L' = L ∧ yBg I I')) 23 [.ref 292, .int n] [] J L R := by
    intro m
    induction m using Nat.strongRecOn with
    | ind m ih =>
      intro J n hm n0 n1 h
      have e18 : J 292 18 = I 292 18 := h.2 18 (by decide) (by decide) (by decide)
      have e304 : J 304 = I 304 := h.1 304 (by decide) (by decide) (by decide) (by decide)
      have f18 : ∀ a x, (qUp J 324 a x) 292 18 = I 292 18 := fun a x => by rw [qUp_ne (by omega), e18]
      refine w_X9_begins_23 hR (by rw [e18]; exact v2) (fun _ => w_X9_begins_85 hR (by rw [e18]; exact v2) (vin (by decide) (by decide)) (by rw [f18]; exact v2) ⟨rfl, rfl, rfl, rfl, yBg_tr h (yBg_tr (yBg_up (Or.inr (Or.inl rfl))) (yBg_up (Or.inr (Or.inr (Or.inr ⟨rfl, Or.inl rfl⟩)))))⟩) (fun q => ?_)
      have lt : n.toInt < 6 := by
        have : ¬ _ := fun z => q (i_le.mpr z)
        rw [e18, ev, e304] at this
        omega
      have v12 : vp_in ((6 : Int32) * I 292 18 + n) 12 := vin (by rw [i_add (by omega) (by omega), m6]; omega) (by rw [i_add (by omega) (by omega), m6]; omega)
      have sn : (n + 1).toInt = n.toInt + 1 := i_s (by omega)
      exact w_X9_begins_36 hR (by rw [e18]; exact v12) (vin n0 (by omega)) (by rw [f18]; exact v12) (vin (by rw [i_add (by rw [show (6 : Int32).toInt = 6 from rfl]; omega) (by rw [show (6 : Int32).toInt = 6 from rfl]; omega), show (6 : Int32).toInt = 6 from rfl]; omega) (by rw [i_add (by rw [show (6 : Int32).toInt = 6 from rfl]; omega) (by rw [show (6 : Int32).toInt = 6 from rfl]; omega), show (6 : Int32).toInt = 6 from rfl]; omega)) (ih _ (by omega) _ (n + 1) rfl (by omega) (by omega) (yBg_tr h (yBg_tr (yBg_up (Or.inr (Or.inl rfl))) (yBg_up (Or.inr (Or.inl rfl))))))
  have loop : ∀ (m : Nat) (J : qMI) (n : Int32), (97 - n.toInt).toNat = m → 0 ≤ n.toInt → yBg I J → wkB l G (d + 1) n_X9_begins (wkPV R (fun I' L' => L' = L ∧ yBg I I')) 2 [.ref 292, .int n] [] J L R := by
    intro m
    induction m with
    | zero =>
      intro J n hm n0 h
      exact w_X9_begins_2 (fun _ => w_X9_begins_21 (loop2 _ J 0 rfl (by decide) (by decide) h)) (fun q => absurd (i_le.mpr (by rw [show (97 : Int32).toInt = 97 from rfl]; omega)) q)
    | succ m ih =>
      intro J n hm n0 h
      refine w_X9_begins_2 (fun _ => w_X9_begins_21 (loop2 _ J 0 rfl (by decide) (by decide) h)) (fun q => ?_)
      have sn : (n + 1).toInt = n.toInt + 1 := i_s (by omega)
      exact w_X9_begins_8 hR (vin n0 (by omega)) (ih _ (n + 1) (by omega) (by omega) (yBg_tr h (yBg_up (Or.inr (Or.inl rfl)))))
  exact wkC_of 1 (by decide) (Nat.le_of_ble_eq_true rfl) (w_X9_begins_0 (loop _ I 0 rfl (by decide) (yBg_rf I)))
end
