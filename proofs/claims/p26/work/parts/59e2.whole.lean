/-! ===== the whole state, alike on both sides ===== -/
def sOk (A : aD) (f : Nat → Int32) (n : Nat) (h sl : Nat → Nat → Int32) (I : qMI) : Prop := aOk A ∧ fOk A f ∧ (∀ i, i < n → fOk A (h i)) ∧ ∀ i, i < 3 → ¬ I 334 i = 0 → fOk A (sl i)
def wS (I : qMI) (R : qMR) : Prop := ∃ (o v n : Nat) (A : aD) (f : Nat → Int32) (h sl : Nat → Nat → Int32), cS0 o A f n h sl I R ∧ rS0 v A f n h sl I ∧ sOk A f n h sl I
theorem sOk_of {A : aD} {f : Nat → Int32} {n : Nat} {h sl : Nat → Nat → Int32} {I J : qMI} (s : sOk A f n h sl I) (e : ∀ i, i < 3 → J 334 i = I 334 i) : sOk A f n h sl J := ⟨s.1, s.2.1, s.2.2.1, fun i hi q => by rw [e i hi] at q; exact s.2.2.2 i hi q⟩
theorem sOk_push {A : aD} {f g : Nat → Int32} {n : Nat} {h sl : Nat → Nat → Int32} {I : qMI} (hn : n ≤ 30) (s : sOk A f n h sl I) (hg : fOk A g) : sOk A g (hN n) (hH n h f) sl I := by
  obtain ⟨s1, s2, s3, s4⟩ := s
  refine ⟨s1, hg, fun i hi => ?_, s4⟩
  unfold hN at hi
  unfold hH
  by_cases c : n < 30
  · rw [if_pos c] at hi ⊢
    by_cases c2 : i = n
    · rw [if_pos c2]; exact s2
    · rw [if_neg c2]; exact s3 i (by omega)
  · rw [if_neg c] at hi ⊢
    by_cases c2 : i = 29
    · rw [if_pos c2]; exact s2
    · rw [if_neg c2]; exact s3 (i + 1) (by omega)
theorem wS_of {I J : qMI} {R : qMR} (s : wS I R) (e : ∀ k, 9 ≤ k → (k < 249 ∨ 252 < k) → k ≠ 292 → k ≠ 293 → (k < 330 ∨ 332 < k) → J k = I k) (e18 : J 292 18 = I 292 18) (e51 : J 292 51 = I 292 51) : wS J R := by
  obtain ⟨o, v, n, A, f, h, sl, s1, s2, s3⟩ := s
  have ho := s1.1.1.1
  exact ⟨o, v, n, A, f, h, sl, cS0_of s1 (fun k a => e k (by omega) (by omega) (by omega) (by omega) (by omega)), rS0_of s2 (fun k a => e k (by omega) (by omega) (by omega) (by omega) (by omega)) e18 e51, sOk_of s3 (fun i hi => by rw [e 334 (by omega) (by omega) (by omega) (by omega) (by omega)])⟩
/-- between the two sides of a call by hand that tells p -/
def wM (p : aD → (Nat → Int32) → Int32 × Option (Nat → Int32)) (y : Int32) (I : qMI) (R : qMR) : Prop := ∃ (o v n : Nat) (A : aD) (f : Nat → Int32) (h sl : Nat → Nat → Int32), y = (p A f).1 ∧ cS20 o A f n h sl I R (p A f).2 ∧ rS0 v A f n h sl I ∧ sOk A f n h sl I
/-- both sides have gone on alike -/
theorem wS_both {o v n : Nat} {A : aD} {f : Nat → Int32} {h sl : Nat → Nat → Int32} {I : qMI} {R : qMR} {g : Option (Nat → Int32)} (c : cS20 o A f n h sl I R g) (r : rS20 v A f n h sl I g) (s : sOk A f n h sl I) (hg : ∀ x, g = some x → fOk A x) (hn : n ≤ 30) : wS I R := by
  cases g with
  | none => exact ⟨o, v, n, A, f, h, sl, c, r, s⟩
  | some x => exact ⟨o, v, hN n, A, x, hH n h f, sl, c, r, sOk_push hn s (hg x rfl)⟩
theorem pLend_ok {A : aD} {f : Nat → Int32} {x y m : Int32} (hA : aOk A) (h : fOk A f) : ∀ g, (pLend A f x y m).2 = some g → fOk A g := by
  intro g e
  unfold pLend at e
  split at e
  · cases e
  split at e
  · cases e
  rename_i c0 c1
  injection e with e
  have c0 := Decidable.not_not.mp c0
  have n6 := hA.1
  have z1 := c0.1
  have z2 := c0.2.1
  have hm := c0.2.2
  have c2 : ¬ f (6 + x.toInt.toNat) < m := fun q => c1 (Or.inl q)
  have c2 := nlt c2
  have hc := h.2.1 x.toInt.toNat (by omega)
  have es : (f (6 + x.toInt.toNat) - m).toInt = (f (6 + x.toInt.toNat)).toInt - m.toInt := i_sub (by omega) (by omega)
  have k1 := fOk_c (k := x.toInt.toNat) (x := f (6 + x.toInt.toNat) - m) h (by omega) (by omega)
  have l0 : f (24 + lnI x y) = 0 := Decidable.byContradiction fun q => c1 (Or.inr (Or.inl q))
  have u0 := h.2.2.2.1 (lnI x y) (by unfold lnI; omega) l0
  rw [← e]
  refine fOk_l (a := x.toInt.toNat) (e := y.toInt.toNat) (x := m) (y := 0) k1 (by omega) (by omega) ⟨by omega, by omega⟩ (fun _ => rfl) (Or.inl ⟨by omega, by omega⟩) (fun k hk => ?_)
  show tU _ (24 + (6 * x.toInt.toNat + y.toInt.toNat)) m k = _
  by_cases z1 : k = 24 + (6 * x.toInt.toNat + y.toInt.toNat)
  · rw [if_pos z1, z1, tU_s]
  · rw [if_neg z1, tU_o z1]
    by_cases z2 : k = 60 + (6 * x.toInt.toNat + y.toInt.toNat)
    · rw [if_pos z2, z2, tU_o (by omega)]
      exact u0
    · rw [if_neg z2]
theorem pCall_ok {A : aD} {f : Nat → Int32} {x y : Int32} (hA : aOk A) (h : fOk A f) : ∀ g, (pCall A f x y).2 = some g → fOk A g := by
  intro g e
  unfold pCall at e
  split at e
  · cases e
  split at e
  · cases e
  rename_i c0 c1
  injection e with e
  have c0 := Decidable.not_not.mp c0
  have n6 := hA.1
  have z1 := c0.1
  have z2 := c0.2
  have c2 : ¬ 99999 < f (6 + x.toInt.toNat) + f (24 + lnI x y) := fun q => c1 (Or.inr (Or.inl q))
  have c2 := nlt c2
  rw [show (99999 : Int32).toInt = 99999 from rfl] at c2
  have hc := h.2.1 x.toInt.toNat (by omega)
  have hl := h.2.2.1 (lnI x y) (by unfold lnI; omega)
  have es : (f (6 + x.toInt.toNat) + f (24 + lnI x y)).toInt = (f (6 + x.toInt.toNat)).toInt + (f (24 + lnI x y)).toInt := i_add (by omega) (by omega)
  have k1 := fOk_c (k := x.toInt.toNat) (x := f (6 + x.toInt.toNat) + f (24 + lnI x y)) h (by omega) (by omega)
  rw [← e]
  refine fOk_l (a := x.toInt.toNat) (e := y.toInt.toNat) (x := 0) (y := 0) k1 (by omega) (by omega) ⟨by decide, by decide⟩ (fun _ => rfl) (Or.inr rfl) (fun k hk => ?_)
  show tU (tU _ (24 + (6 * x.toInt.toNat + y.toInt.toNat)) 0) (60 + (6 * x.toInt.toNat + y.toInt.toNat)) 0 k = _
  by_cases z2 : k = 60 + (6 * x.toInt.toNat + y.toInt.toNat)
  · rw [z2, tU_s, if_neg (by omega), if_pos rfl]
  · rw [tU_o z2]
    by_cases z1 : k = 24 + (6 * x.toInt.toNat + y.toInt.toNat)
    · rw [if_pos z1, z1, tU_s]
    · rw [if_neg z1, if_neg z2, tU_o z1]
theorem pMove_ok {A : aD} {f : Nat → Int32} {x y : Int32} (hA : aOk A) (h : fOk A f) : ∀ g, (pMove A f x y).2 = some g → fOk A g := by
  intro g e
  unfold pMove at e
  split at e
  · cases e
  rename_i c0
  injection e with e
  have n6 := hA.1
  have c1 : okS A x ∧ okX y := Decidable.byContradiction fun q => c0 (Or.inl q)
  have z1 := c1.1
  have z2 := c1.2
  rw [← e]
  exact fOk_x h (by omega) ⟨by omega, by omega⟩
theorem pHours_ok {A : aD} {f : Nat → Int32} {x : Int32} (hA : aOk A) (h : fOk A f) : ∀ g, (pHours A f x).2 = some g → fOk A g := by
  intro g e
  unfold pHours at e
  split at e
  · cases e
  split at e
  · cases e
  injection e with e
  rw [← e]
  exact fOk_go hA _ _ h
