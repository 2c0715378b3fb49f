/-! ===== the reference's grammar: what it has come to ===== -/
def pVk : List Int32 := [0, 1, 2, 3, 59, 61, 40, 41, 43, 45, 42, 60, 47, 128, 129, 130, 131, 132, 133, 134, 135, 136, 137, 138, 139, 140, 141, 142, 143, 144, 145, 146, 147, 148, 149, 150]
theorem rK_inj : ∀ a ∈ pVk, ∀ b ∈ pVk, rK a = rK b → a = b := by decide +kernel
theorem rK_b : ∀ a ∈ pVk, 0 ≤ (rK a).toInt ∧ (rK a).toInt ≤ 42 := by decide +kernel
/-- the tokens as the reference has them -/
def rT (T : Nat) (K S : Nat → Int32) (N : Nat → Int64) (I : qMI) (L : qML) : Prop := (1 ≤ T ∧ T ≤ 401 ∧ (T = 401 ∨ K (T - 1) = 0)) ∧ (∀ j, j < T → K j ∈ pVk ∧ I 295 j = rK (K j) ∧ I 296 j = S j ∧ (K j = 3 → I 297 j = (N j).toInt32) ∧ (K j = 2 → L 298 j = N j)) ∧ ∀ j, j + 1 < T → (S j).toInt < (S (j + 1)).toInt
def rGw (T : Nat) (K S : Nat → Int32) (N : Nat → Int64) (I : qMI) (L : qML) (z : pZ) : Prop := rT T K S N I L ∧ I 292 13 = pf z ∧ (pf z ≠ 0 → I 292 14 = pq z) ∧ (pf z = 0 → ((I 292 11).toInt = pt z ∧ pt z < T) ∧ I 292 15 = z.2.1.1 ∧ (z.2.1.1 ≠ 0 → I 292 16 = z.2.1.2 ∧ z.2.1.2.toInt ≤ (S (pt z)).toInt))
def rG (T : Nat) (K S : Nat → Int32) (N : Nat → Int64) (I : qMI) (L : qML) (z : pZ) : Prop := rT T K S N I L ∧ I 292 13 = pf z ∧ (pf z ≠ 0 → I 292 14 = pq z) ∧ (pf z = 0 → ((I 292 11).toInt = pt z ∧ pt z < T) ∧ I 292 15 = z.2.1.1 ∧ (z.2.1.1 ≠ 0 → I 292 16 = z.2.1.2 ∧ z.2.1.2.toInt < (S (pt z)).toInt))
section
variable {T : Nat} {K S : Nat → Int32} {N : Nat → Int64} {I I' : qMI} {L L' : qML} {z : pZ}
theorem rT_of (h : rT T K S N I L) (e5 : I' 295 = I 295) (e6 : I' 296 = I 296) (e7 : I' 297 = I 297) (e8 : L' 298 = L 298) : rT T K S N I' L' := by
  unfold rT
  rw [e5, e6, e7, e8]
  exact h
theorem rT_t (h : rT T K S N I L) (g : yT I I') : rT T K S N I' L := rT_of h (g.1 295 (by decide)) (g.1 296 (by decide)) (g.1 297 (by decide)) rfl
/-- the kind of the token that it stands at -/
theorem rG.w (h : rG T K S N I L z) : rGw T K S N I L z := ⟨h.1, h.2.1, h.2.2.1, fun q => ⟨(h.2.2.2 q).1, (h.2.2.2 q).2.1, fun x => ⟨((h.2.2.2 q).2.2 x).1, Int.le_of_lt ((h.2.2.2 q).2.2 x).2⟩⟩⟩
theorem rGw.f (h : rGw T K S N I L z) (hf : pf z ≠ 0) : rG T K S N I L z := ⟨h.1, h.2.1, h.2.2.1, fun q => absurd q hf⟩
theorem rAt (h : rGw T K S N I L z) (hf : pf z = 0) : (I 292 11).toNatClampNeg = pt z ∧ pt z < T ∧ K (pt z) ∈ pVk ∧ I 295 (pt z) = rK (K (pt z)) ∧ I 296 (pt z) = S (pt z) := by
  obtain ⟨h1, h2, h3, h4⟩ := h
  obtain ⟨⟨a1, a2⟩, -⟩ := h4 hf
  obtain ⟨b1, b2, b3, -⟩ := h1.2.1 (pt z) a2
  exact ⟨by rw [tcn, a1, Int.toNat_natCast], a2, b1, b2, b3⟩
end
section
variable {l : Launch} {G : qG} {d : Nat} {I : qMI} {L : qML} {R : qMR} {T : Nat} {K S : Nat → Int32} {N : Nat → Int64} {z : pZ}
theorem rFail (hR : wkR R) (hk : yOk I) (h : rGw T K S N I L z) {w : Int32} (h1 : 1 ≤ w.toInt) (h2 : w.toInt ≤ 2) : wkV l G (d + 1) n_X9_fail [.ref 292, .int w] I L R (fun I' L' => L' = L ∧ yS I I' ∧ I' 292 13 ≠ 0 ∧ I' 292 11 = I 292 11 ∧ rG T K S N I' L' (zFail S w z)) := by
  have hw : w ≠ 0 := fun q => by rw [q] at h1; exact absurd h1 (by decide)
  have e13 : ∀ x y, (qUp (qUp I 292 13 x) 292 14 y) 292 13 = x := fun x y => by rw [qUp_ne (by omega), qUp_at, if_pos ⟨rfl, rfl⟩]
  have e11 : ∀ x y, (qUp (qUp I 292 13 x) 292 14 y) 292 11 = I 292 11 := fun x y => by rw [qUp_ne (by omega), qUp_ne (by omega)]
  refine wkC_of 0 (by decide) (Nat.le_of_ble_eq_true rfl) (w_X9_fail_0 (fun hf => w_X9_fail_8 hR ?_ ⟨rfl, rfl, rfl, rfl, ?_, ?_, e11 _ _, ?_⟩) (fun hf => w_X9_fail_7 ⟨rfl, rfl, rfl, rfl, yS_rf hk, fun q => hf (by rw [q]; decide), rfl, ?_⟩))
  · rw [qUp_ne (by omega)]
    exact yOk_t hk
  · refine ⟨yT_tr (yT_up (j := 13) (by omega)) (yT_up (j := 14) (by omega)), ⟨?_, ?_⟩, ?_, fun _ => ?_⟩
    · rw [e11]; exact hk.1
    · rw [e13]; omega
    · rw [e11]; exact Int.le_refl _
    · rw [e13]; exact hw
  · rw [e13]; exact hw
  · have hf0 : pf z = 0 := by
      rw [← h.2.1]
      have q1 := i_le.mp hf
      have q2 := hk.2.1
      exact i_eq.mpr (by rw [show (0 : Int32).toInt = 0 from rfl] at q1 ⊢; omega)
    obtain ⟨a1, a2, a3, a4, a5⟩ := rAt h hf0
    unfold zFail
    rw [if_pos hf0]
    refine ⟨rT_t h.1 (yT_tr (yT_up (j := 13) (by omega)) (yT_up (j := 14) (by omega))), e13 _ _, fun _ => ?_, fun q => absurd q hw⟩
    rw [qUp_at, if_pos ⟨rfl, rfl⟩, qUp_ne (by omega), qUp_ne (by omega), a1]
    exact a5
  · unfold zFail
    rw [if_neg (fun e => hf (by rw [h.2.1, e]; decide))]
    exact h.f (fun e => hf (by rw [h.2.1, e]; decide))
theorem rIs (hR : wkR R) (hk : yOk I) (h : rG T K S N I L z) {k : Int32} (hv : k ∈ pVk) : wkI l G (d + 1) n_X9_is [.ref 292, .int (rK k)] I L R (fun y I' L' => L' = L ∧ I' = I ∧ ((y = 1 ∧ pf z = 0 ∧ K (pt z) = k) ∨ (y = 0 ∧ ¬ (pf z = 0 ∧ K (pt z) = k)))) := by
  refine wkI.mono (yIs hR hk) (fun y I' L' hq => ?_)
  obtain ⟨e1, e2, hy⟩ := hq
  refine ⟨e1, e2, ?_⟩
  rcases hy with ⟨rfl, f, q⟩ | ⟨rfl, q⟩
  · have hf : pf z = 0 := by rw [← h.2.1]; exact f
    obtain ⟨a1, a2, a3, a4, a5⟩ := rAt h.w hf
    rw [a1, a4] at q
    exact Or.inl ⟨rfl, hf, rK_inj _ a3 _ hv q⟩
  · refine Or.inr ⟨rfl, fun w => q ⟨by rw [h.2.1]; exact w.1, ?_⟩⟩
    obtain ⟨a1, a2, a3, a4, a5⟩ := rAt h.w w.1
    rw [a1, a4, w.2]
theorem rGoes (hR : wkR R) (hk : yOk I) (h : rGw T K S N I L z) (hn : pf z = 0 → K (pt z) ≠ 0) : wkV l G (d + 2) n_X9_goesOn [.ref 292] I L R (fun I' L' => L' = L ∧ yN I I' ∧ rG T K S N I' L' (zTake S true z)) := by
  refine wkC_of 0 (by decide) (Nat.le_of_ble_eq_true rfl) (w_X9_goesOn_0 (fun q => w_X9_goesOn_18 (w_X9_goesOn_28 ⟨rfl, rfl, rfl, rfl, ?_, ?_⟩)) (fun q => w_X9_goesOn_10 (rFail (d := d) hR hk h (by decide) (by decide)) (fun I' L' hq => w_X9_goesOn_15 (w_X9_goesOn_28 ⟨rfl, rfl, rfl, hq.1, ⟨hq.2.1, fun x => absurd x hq.2.2.1⟩, ?_⟩))))
  · have h4 : (I 292 11).toInt ≠ 400 := fun x => q (i_eq.mpr x)
    have e : (I 292 11 + 1).toInt = (I 292 11).toInt + 1 := i_s (by have := hk.1.2; omega)
    have e2 : (qUp I 292 11 (I 292 11 + 1)) 292 11 = I 292 11 + 1 := by rw [qUp_at, if_pos ⟨rfl, rfl⟩]
    have e3 : (qUp I 292 11 (I 292 11 + 1)) 292 13 = I 292 13 := qUp_ne (by omega)
    refine ⟨⟨yT_up (by omega), ⟨?_, ?_⟩, ?_, ?_⟩, fun _ => ?_⟩
    · rw [e2, e]; have := hk.1; omega
    · rw [e3]; exact hk.2
    · rw [e2, e]; omega
    · rw [e3]; exact id
    · rw [e2, e]
  · have h4 : (I 292 11).toInt ≠ 400 := fun x => q (i_eq.mpr x)
    have e : (I 292 11 + 1).toInt = (I 292 11).toInt + 1 := i_s (by have := hk.1.2; omega)
    have e2 : (qUp I 292 11 (I 292 11 + 1)) 292 11 = I 292 11 + 1 := by rw [qUp_at, if_pos ⟨rfl, rfl⟩]
    have oth : ∀ j, j ≠ 11 → (qUp I 292 11 (I 292 11 + 1)) 292 j = I 292 j := fun j x => qUp_ne (fun w => x w.2)
    by_cases hf : pf z = 0
    · obtain ⟨h1, h2, h3, h4'⟩ := h
      obtain ⟨⟨a1, a2⟩, a3, a4⟩ := h4' hf
      have hT := h1.1
      have ht1 : pt z + 1 < T := by
        rcases hT.2.2 with x | x
        · have := hk.1.2; omega
        · by_cases y : pt z = T - 1
          · rw [← y] at x; exact absurd x (hn hf)
          · omega
      have ez : zTake S true z = ((pt z + 1, 0, pq z), z.2) := by
        unfold zTake
        rw [if_pos hf, if_pos rfl, if_neg (by omega)]
      rw [ez]
      refine ⟨rT_t h1 (yT_up (by omega)), by rw [oth 13 (by decide), h2]; exact hf, fun x => absurd rfl x, fun _ => ⟨⟨by rw [e2, e, a1]; rfl, ht1⟩, by rw [oth 15 (by decide)]; exact a3, fun x => ?_⟩⟩
      obtain ⟨b1, b2⟩ := a4 x
      refine ⟨by rw [oth 16 (by decide)]; exact b1, ?_⟩
      have := h1.2.2 (pt z) ht1
      show z.2.1.2.toInt < (S (pt z + 1)).toInt
      omega
    · rw [zTake_f hf]
      obtain ⟨h1, h2, h3, h4'⟩ := h
      exact ⟨rT_t h1 (yT_up (by omega)), by rw [oth 13 (by decide)]; exact h2, fun x => by rw [oth 14 (by decide)]; exact h3 x, fun x => absurd x hf⟩
  · have e : zTake S true z = zFail S 2 z := by
      by_cases hf : pf z = 0
      · have := (rAt h hf).1
        have e4 := i_eq.mp q
        rw [show (400 : Int32).toInt = 400 from rfl] at e4
        rw [tcn] at this
        unfold zTake zFail
        rw [if_pos hf, if_pos hf, if_pos rfl, if_pos (by omega)]
      · rw [zTake_f hf, zFail_f hf]
    rw [e]
    exact hq.2.2.2.2
theorem rMust (hR : wkR R) (hk : yOk I) (h : rG T K S N I L z) {k : Int32} (hv : k ∈ pVk) (h0 : k ≠ 0) : wkV l G (d + 3) n_X9_must [.ref 292, .int (rK k)] I L R (fun I' L' => L' = L ∧ yN I I' ∧ (I' 292 13 = 0 → I 295 (I 292 11).toNatClampNeg = rK k) ∧ rG T K S N I' L' (zMust K S k z)) := by
  refine wkC_of 0 (by decide) (Nat.le_of_ble_eq_true rfl) (w_X9_must_0 (rIs (d := d + 1) hR hk h hv) (fun y I' L' hq => ?_))
  obtain ⟨rfl, rfl, hy⟩ := hq
  rcases hy with ⟨rfl, f, q⟩ | ⟨rfl, q⟩
  · refine w_X9_must_5 (fun q => absurd q (by decide)) (fun _ => w_X9_must_8 (rGoes (d := d) hR hk h.w (fun _ => by rw [q]; exact h0)) (fun I1 L1 hq => w_X9_must_12 (w_X9_must_20 ⟨rfl, rfl, rfl, hq.1, hq.2.1, fun _ => ?_, ?_⟩)))
    · obtain ⟨a1, a2, a3, a4, a5⟩ := rAt h.w f
      rw [a1, a4, q]
    · unfold zMust
      rw [decide_eq_true q]
      exact hq.2.2
  · refine w_X9_must_5 (fun _ => w_X9_must_15 (rFail (d := d + 1) hR hk h.w (by decide) (by decide)) (fun I1 L1 hq => w_X9_must_20 ⟨rfl, rfl, rfl, hq.1, ⟨hq.2.1, fun q => absurd q hq.2.2.1⟩, fun q => absurd q hq.2.2.1, ?_⟩)) (fun q => absurd rfl q)
    have e : zMust K S k z = zFail S 1 z := by
      by_cases hf : pf z = 0
      · unfold zMust zTake zFail
        rw [if_pos hf, if_pos hf, decide_eq_false (fun x => q ⟨hf, x⟩), if_neg (by decide)]
      · unfold zMust
        rw [zTake_f hf, zFail_f hf]
    rw [e]
    exact hq.2.2.2.2
theorem rWrong (hR : wkR R) (hk : yOk I) (h : rG T K S N I L z) (hf : pf z = 0) {k t : Int32} (hk0 : k ≠ 0) {a : Nat} (ha : t.toInt = a) (haT : a < T) (hS : z.2.1.1 ≠ 0 → z.2.1.2.toInt < (S a).toInt ∨ (z.2.1.2.toInt = (S a).toInt ∧ z.2.1.1.toInt ≤ k.toInt)) : wkV l G (d + 1) n_X9_wrong [.ref 292, .int k, .int t] I L R (fun I' L' => L' = L ∧ yS I I' ∧ I' 292 11 = I 292 11 ∧ I' 292 13 = I 292 13 ∧ rT T K S N I' L' ∧ I' 292 15 = (zNote k (S a) z).2.1.1 ∧ ((zNote k (S a) z).2.1.1 ≠ 0 → I' 292 16 = (zNote k (S a) z).2.1.2)) := by
  obtain ⟨h1, h2, h3, h4⟩ := id h
  obtain ⟨⟨a1, a2⟩, a3, a4⟩ := h4 hf
  have ht : vp_in t 403 := vin (by omega) (by have := h1.1; omega)
  have et : t.toNatClampNeg = a := by rw [tcn, ha, Int.toNat_natCast]
  have e296 : I 296 t.toNatClampNeg = S a := by rw [et]; exact (h1.2.1 a haT).2.2.1
  have f0 : ¬ 0 < I 292 13 := fun q => by rw [h2, hf] at q; exact absurd q (by decide)
  have same : z.2.1.1 ≠ 0 → wkPV R (fun I' L' => L' = L ∧ yS I I' ∧ I' 292 11 = I 292 11 ∧ I' 292 13 = I 292 13 ∧ rT T K S N I' L' ∧ I' 292 15 = (zNote k (S a) z).2.1.1 ∧ ((zNote k (S a) z).2.1.1 ≠ 0 → I' 292 16 = (zNote k (S a) z).2.1.2)) none 336 I L R := fun q => by
    have e : zNote k (S a) z = z := by unfold zNote; rw [if_neg q]
    rw [e]
    exact ⟨rfl, rfl, rfl, rfl, yS_rf hk, rfl, rfl, h1, a3, fun x => (a4 x).1⟩
  have new : z.2.1.1 = 0 → wkPV R (fun I' L' => L' = L ∧ yS I I' ∧ I' 292 11 = I 292 11 ∧ I' 292 13 = I 292 13 ∧ rT T K S N I' L' ∧ I' 292 15 = (zNote k (S a) z).2.1.1 ∧ ((zNote k (S a) z).2.1.1 ≠ 0 → I' 292 16 = (zNote k (S a) z).2.1.2)) none 336 (qUp (qUp I 292 15 k) 292 16 (I 296 t.toNatClampNeg)) L R := fun q => by
    have e : zNote k (S a) z = (z.1, (k, S a), z.2.2) := by unfold zNote; rw [if_pos q]
    have e1 : (qUp (qUp I 292 15 k) 292 16 (I 296 t.toNatClampNeg)) 292 11 = I 292 11 := by rw [qUp_ne (by omega), qUp_ne (by omega)]
    have e2 : (qUp (qUp I 292 15 k) 292 16 (I 296 t.toNatClampNeg)) 292 13 = I 292 13 := by rw [qUp_ne (by omega), qUp_ne (by omega)]
    have hy : yT I (qUp (qUp I 292 15 k) 292 16 (I 296 t.toNatClampNeg)) := yT_tr (yT_up (j := 15) (by omega)) (yT_up (j := 16) (by omega))
    rw [e]
    refine ⟨rfl, rfl, rfl, rfl, ⟨hy, ?_, ?_, ?_⟩, e1, e2, rT_t h1 hy, ?_, fun _ => ?_⟩
    · unfold yOk; rw [e1, e2]; exact hk
    · rw [e1]; exact Int.le_refl _
    · rw [e2]; exact id
    · rw [qUp_ne (by omega), qUp_at, if_pos ⟨rfl, rfl⟩]
    · rw [qUp_at, if_pos ⟨rfl, rfl⟩]; exact e296
  have no : z.2.1.1 ≠ 0 → ¬ I 292 16 < I 296 t.toNatClampNeg → I 296 t.toNatClampNeg = I 292 16 ∧ I 292 15 ≤ k := fun q x => by
    rw [e296, (a4 q).1] at x ⊢
    rcases hS q with y | ⟨y1, y2⟩
    · exact absurd (i_lt.mpr y) x
    · exact ⟨i_eq.mpr y1.symm, by rw [a3]; exact i_le.mpr y2⟩
  refine wkC_of 1 (by decide) (Nat.le_of_ble_eq_true rfl) (w_X9_wrong_0 hR ht (fun q => absurd q f0) (fun _ => w_X9_wrong_14 (fun q => w_X9_wrong_46 (new (by rw [← a3]; exact q))) (fun q => ?_)))
  have hs0 : z.2.1.1 ≠ 0 := fun x => q (by rw [a3]; exact x)
  exact w_X9_wrong_21 (fun _ => w_X9_wrong_45 (same hs0)) (fun q2 => w_X9_wrong_29 (fun q3 => absurd (no hs0 q2).1 q3) (fun _ => w_X9_wrong_37 (fun q4 => absurd (i_lt.mp q4) (by have := i_le.mp (no hs0 q2).2; omega)) (fun _ => w_X9_wrong_45 (same hs0))))
theorem zNT {w p : Int32} {b : Bool} {z : pZ} : zTake S b (zNote w p z) = zNote w p (zTake S b z) := by
  unfold zNote
  rw [zTake_2]
  by_cases q : z.2.1.1 = 0
  · rw [if_pos q, if_pos q]
    unfold zTake
    split
    · split
      · split <;> rfl
      · rfl
    · rfl
  · rw [if_neg q, if_neg q]
theorem rG_slip {z' : pZ} (h : rG T K S N I L z) (hf : pf z ≠ 0) (e : z'.1 = z.1) : rG T K S N I L z' := by
  have e1 : pf z' = pf z := by show z'.1.2.1 = _; rw [e]
  have e2 : pq z' = pq z := by show z'.1.2.2 = _; rw [e]
  exact ⟨h.1, by rw [e1]; exact h.2.1, fun _ => by rw [e2]; exact h.2.2.1 hf, fun q => absurd (e1.symm.trans q) hf⟩
theorem rBounded (hR : wkR R) (hk : yOk I) (h : rG T K S N I L z) {a b : Int32} : wkI l G (d + 3) n_X9_bounded [.ref 292, .int a, .int b] I L R (fun _ I' L' => L' = L ∧ yN I I' ∧ rG T K S N I' L' (zInt K S N a b z)) := by
  have bad : ¬ (pf z = 0 ∧ K (pt z) = 3) → wkB l G (d + 2 + 1) n_X9_bounded (wkPI R (fun _ I' L' => L' = L ∧ yN I I' ∧ rG T K S N I' L' (zInt K S N a b z))) 15 [.ref 292, .int a, .int b, wkU] [] I L R := fun c => by
    have e : zInt K S N a b z = zFail S 1 z := by
      by_cases hf : pf z = 0
      · have e1 : zTake S (decide (K (pt z) = 3)) z = zFail S 1 z := by
          unfold zTake zFail
          rw [if_pos hf, if_pos hf, decide_eq_false (fun x => c ⟨hf, x⟩), if_neg (by decide)]
        unfold zInt
        rw [e1, if_neg (fun x => zFail_n (by decide) x.1)]
      · have e1 : zInt K S N a b z = z := by
          unfold zInt
          rw [zTake_f hf, if_neg (fun x => hf x.1)]
        rw [e1, zFail_f hf]
    refine w_X9_bounded_15 (rFail (d := d + 1) hR hk h.w (by decide) (by decide)) (fun I1 L1 hq => w_X9_bounded_20 ⟨rfl, rfl, _, rfl, hq.1, ⟨hq.2.1, fun q => absurd q hq.2.2.1⟩, ?_⟩)
    rw [e]
    exact hq.2.2.2.2
  refine wkC_of 1 (by decide) (Nat.le_of_ble_eq_true rfl) (w_X9_bounded_0 (fun q => bad (fun x => by rw [h.2.1, x.1] at q; exact absurd q (by decide))) (fun _ => w_X9_bounded_7 (rIs (k := 3) (d := d + 1) hR hk h (by decide)) (fun y I' L' hq => ?_)))
  obtain ⟨rfl, rfl, hy⟩ := hq
  rcases hy with ⟨rfl, hf, hk3⟩ | ⟨rfl, c⟩
  · obtain ⟨a1, a2, a3, a4, a5⟩ := rAt h.w hf
    obtain ⟨h1, h2, h3, h4⟩ := id h
    obtain ⟨⟨b1, b2⟩, b3, b4⟩ := h4 hf
    have ev : I' 297 (I' 292 11).toNatClampNeg = (N (pt z)).toInt32 := by rw [a1]; exact (h1.2.1 (pt z) b2).2.2.2.1 hk3
    have edt : decide (K (pt z) = 3) = true := decide_eq_true hk3
    have go : ∀ (J : qMI) (v : Int32) (z' : pZ), yS I' J → J 292 11 = I' 292 11 → rGw T K S N J L' z' → pt z' = pt z → (∀ J' M', rG T K S N J' M' (zTake S true z') → rG T K S N J' M' (zInt K S N a b z)) → wkB l G (d + 2 + 1) n_X9_bounded (wkPI R (fun _ I1 L1 => L1 = L' ∧ yN I' I1 ∧ rG T K S N I1 L1 (zInt K S N a b z))) 51 [.ref 292, .int a, .int b, .int v] [] J L' R := by
      intro J v z' hJ e g ept hz
      refine w_X9_bounded_51 (rGoes (d := d) hR hJ.2.1 g (fun _ => by rw [ept, hk3]; decide)) (fun I1 L1 hq => w_X9_bounded_55 ⟨rfl, rfl, _, rfl, hq.1, ⟨yS_tr hJ hq.2.1.1, fun q => ?_⟩, hz _ _ hq.2.2⟩)
      rw [hq.2.1.2 q, e]
    have hw : ((N (pt z)).toInt32 < a ∨ b < (N (pt z)).toInt32) → wkB l G (d + 2 + 1) n_X9_bounded (wkPI R (fun _ I1 L1 => L1 = L' ∧ yN I' I1 ∧ rG T K S N I1 L1 (zInt K S N a b z))) 42 [.ref 292, .int a, .int b, .int (I' 297 (I' 292 11).toNatClampNeg)] [] I' L' R := fun c => by
      refine w_X9_bounded_42 (rWrong (d := d + 1) hR hk h hf (by decide) b1 b2 (fun x => Or.inl (b4 x).2)) (fun I1 L1 hq => ?_)
      obtain ⟨rfl, q1, q2, q3, q4, q5, q6⟩ := hq
      have n1 := zNote_1 (w := 5) (p := S (pt z)) (z := z)
      have npt : pt (zNote 5 (S (pt z)) z) = pt z := by show (zNote 5 (S (pt z)) z).1.1 = _; rw [n1.1]
      have npf : pf (zNote 5 (S (pt z)) z) = pf z := by show (zNote 5 (S (pt z)) z).1.2.1 = _; rw [n1.1]
      refine go I1 _ (zNote 5 (S (pt z)) z) q1 q2 ⟨q4, by rw [q3, npf]; exact h2, fun x => absurd (npf.trans hf) x, fun _ => ⟨⟨by rw [q2, npt]; exact b1, by rw [npt]; exact b2⟩, q5, fun x => ⟨q6 x, ?_⟩⟩⟩ npt (fun J' M' g => ?_)
      · rw [npt]
        unfold zNote
        by_cases s0 : z.2.1.1 = 0
        · rw [if_pos s0]; exact Int.le_refl _
        · rw [if_neg s0]; exact Int.le_of_lt (b4 s0).2
      · rw [zNT] at g
        unfold zInt
        rw [edt]
        by_cases t0 : pf (zTake S true z) = 0
        · rw [if_pos ⟨t0, c⟩]; exact g
        · rw [if_neg (fun x => t0 x.1)]
          refine rG_slip g (fun x => t0 ?_) ?_
          · rw [← x]; show _ = (zNote 5 (S (pt z)) (zTake S true z)).1.2.1; rw [zNote_1.1]
          · rw [zNote_1.1]
    refine w_X9_bounded_12 (fun _ => w_X9_bounded_22 hR (yOk_t hk) (fun q => hw (Or.inl (by rw [← ev]; exact q))) (fun q1 => w_X9_bounded_37 (fun q2 => go I' _ z (yS_rf hk) rfl h.w rfl (fun J' M' g => ?_)) (fun q2 => hw (Or.inr (by rw [← ev]; exact Int32.not_le.mp q2))))) (fun q => absurd q (by decide))
    unfold zInt
    rw [edt, if_neg (fun x => by rw [ev] at q1 q2; rcases x.2 with y | y; exact q1 y; exact absurd y (Int32.not_lt.mpr q2))]
    exact g
  · exact w_X9_bounded_12 (fun q => absurd rfl q) (fun _ => bad c)
theorem rRoom (hR : wkR R) (hk : yOk I) (h : rG T K S N I L z) (hn : pf z = 0 → K (pt z) ≠ 0) {a b : Int32} : wkV l G (d + 3) n_X9_roomFor [.ref 292, .int a, .int b] I L R (fun I' L' => L' = L ∧ yN I I' ∧ (I' 292 13 = 0 → a ≠ b) ∧ rG T K S N I' L' (zTake S true (if a = b then zFail S 2 z else z))) := by
  have go : ∀ (J : qMI) (z' : pZ), yS I J → rG T K S N J L z' → z' = (if a = b then zFail S 2 z else z) → (J 292 13 = 0 → J 292 11 = I 292 11 ∧ a ≠ b) → wkB l G (d + 2 + 1) n_X9_roomFor (wkPV R (fun I' L' => L' = L ∧ yN I I' ∧ (I' 292 13 = 0 → a ≠ b) ∧ rG T K S N I' L' (zTake S true (if a = b then zFail S 2 z else z)))) 10 [.ref 292, .int a, .int b] [] J L R := by
    intro J z' hJ g ez hn'
    rw [← ez]
    refine w_X9_roomFor_10 (fun q => w_X9_roomFor_21 ⟨rfl, rfl, rfl, rfl, ⟨hJ, fun x => absurd x q⟩, fun x => absurd x q, ?_⟩) (fun q => w_X9_roomFor_17 (rGoes (d := d + 0) hR hJ.2.1 g.w (fun x => ?_)) (fun I1 L1 hq => w_X9_roomFor_21 ⟨rfl, rfl, rfl, hq.1, ⟨yS_tr hJ hq.2.1.1, fun x => ?_⟩, fun _ => (hn' q).2, hq.2.2⟩))
    · rw [zTake_f (fun x => q (by rw [g.2.1]; exact x))]; exact g
    · have hab := (hn' q).2
      rw [ez, if_neg hab] at x ⊢
      exact hn x
    · rw [hq.2.1.2 x, (hn' q).1]
  exact wkC_of 0 (by decide) (Nat.le_of_ble_eq_true rfl) (w_X9_roomFor_0 (fun q => go I z (yS_rf hk) h (by rw [if_neg q]) (fun _ => ⟨rfl, q⟩)) (fun q => w_X9_roomFor_5 (rFail (d := d + 1) hR hk h.w (by decide) (by decide)) (fun I1 L1 hq => by obtain ⟨rfl, h3, h4, -, g⟩ := hq; exact go I1 _ h3 g (by rw [if_pos q]) (fun x => absurd x h4))))
theorem rTold (hR : wkR R) (hk : yOk I) (h : rG T K S N I L z) (hn : pf z = 0 → K (pt z) ≠ 0) {a b : Int32} : wkI l G (d + 4) n_X9_toldInt [.ref 292, .int a, .int b] I L R (fun _ I' L' => L' = L ∧ yS I I' ∧ (I' 292 13 = 0 → (I' 292 11).toInt = (I 292 11).toInt + 3) ∧ rG T K S N I' L' (zMust K S 59 (zInt K S N a b (zTake S true z)))) := by
  refine wkC_of 1 (by decide) (Nat.le_of_ble_eq_true rfl) (w_X9_toldInt_0 (rGoes (d := d + 1) hR hk h.w hn) (fun I1 L1 hq => ?_))
  obtain ⟨rfl, h1, g1⟩ := hq
  refine w_X9_toldInt_4 (rBounded (d := d) hR h1.1.2.1 g1) (fun y I2 L2 hq => ?_)
  obtain ⟨rfl, h2, g2⟩ := hq
  refine w_X9_toldInt_10 (rMust (d := d) (k := 59) hR h2.1.2.1 g2 (by decide) (by decide)) (fun I3 L3 hq => ?_)
  obtain ⟨rfl, h3, -, g3⟩ := hq
  refine w_X9_toldInt_16 ⟨rfl, rfl, _, rfl, rfl, yS_tr h1.1 (yS_tr h2.1 h3.1), fun q => ?_, g3⟩
  have q2 := yS_f0 h3.1 q
  have q1 := yS_f0 h2.1 q2
  have := h3.2 q
  have := h2.2 q2
  have := h1.2 q1
  omega
end
