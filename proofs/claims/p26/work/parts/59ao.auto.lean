/-! ===== an expression taken as the reference takes it ===== -/
section
variable {K S : Nat → Int32} {N : Nat → Int64}
/-- one that goes on, and stays within the tokens -/
def pPg (u : pZ → pZ) : Prop := ∀ y, (pf y = 0 → pt y ≤ 400) → pf (u y) = 0 → pf y = 0 ∧ pt y ≤ pt (u y) ∧ pt (u y) ≤ 400
theorem zTake_pg {b : Bool} {y : pZ} (h : pf y = 0 → pt y ≤ 400) (h0 : pf (zTake S b y) = 0) : pf y = 0 ∧ pt (zTake S b y) = pt y + 1 ∧ pt (zTake S b y) ≤ 400 := by
  have hf := zTake_0 h0
  unfold zTake at h0 ⊢
  rw [if_pos hf] at h0 ⊢
  cases b with
  | false => exact absurd (show (1 : Int32) = 0 from h0) (by decide)
  | true =>
    rw [if_pos rfl] at h0 ⊢
    by_cases c : 400 ≤ pt y
    · rw [if_pos c] at h0; exact absurd (show (2 : Int32) = 0 from h0) (by decide)
    · rw [if_neg c]
      exact ⟨hf, rfl, by show pt y + 1 ≤ 400; omega⟩
theorem zLoop_f {c : Int32 → Bool} {u : pZ → pZ} {n : Nat} {z : pZ} (h : pf z ≠ 0) : zLoop K S c u n z = z := by
  cases n with
  | zero => rfl
  | succ n => rw [zLoop, if_neg (fun q => h q.1)]
theorem zLoop_no {c : Int32 → Bool} {u : pZ → pZ} {n : Nat} {z : pZ} (h : ¬ c (K (pt z)) = true) : zLoop K S c u n z = z := by
  cases n with
  | zero => rfl
  | succ n => rw [zLoop, if_neg (fun q => h q.2)]
theorem zLoop_pg {c : Int32 → Bool} {u : pZ → pZ} (hu : pPg u) : ∀ n, pPg (zLoop K S c u n)
  | 0, y, h, h0 => ⟨h0, Nat.le_refl _, h h0⟩
  | n + 1, y, h, h0 => by
    rw [zLoop] at h0 ⊢
    by_cases q : pf y = 0 ∧ c (K (pt y)) = true
    · rw [if_pos q] at h0 ⊢
      have ht : pf (zTake S true y) = 0 → pt (zTake S true y) ≤ 400 := fun z => (zTake_pg h z).2.2
      have hub : pf (u (zTake S true y)) = 0 → pt (u (zTake S true y)) ≤ 400 := fun z => (hu _ ht z).2.2
      obtain ⟨a1, a2, a3⟩ := zLoop_pg hu n _ hub h0
      obtain ⟨b1, b2, b3⟩ := hu _ ht a1
      obtain ⟨c1, c2, c3⟩ := zTake_pg h b1
      exact ⟨c1, by omega, a3⟩
    · rw [if_neg q] at h0 ⊢
      exact ⟨h0, Nat.le_refl _, h h0⟩
theorem zPr_pg {u : pZ → pZ} (hu : pPg u) : pPg (zPr K S u) := by
  intro y h h0
  unfold zPr at h0 ⊢
  obtain ⟨a1, a2, a3⟩ := zLoop_pg hu 401 (u y) (fun z => (hu y h z).2.2) h0
  obtain ⟨b1, b2, b3⟩ := hu y h a1
  exact ⟨b1, by omega, a3⟩
theorem zSu_pg {u : pZ → pZ} (hu : pPg u) : pPg (zSu K S u) := by
  intro y h h0
  unfold zSu at h0 ⊢
  obtain ⟨a1, a2, a3⟩ := zLoop_pg (zPr_pg hu) 401 (zPr K S u y) (fun z => (zPr_pg hu y h z).2.2) h0
  obtain ⟨b1, b2, b3⟩ := zPr_pg hu y h a1
  exact ⟨b1, by omega, a3⟩
theorem zFail_n {w : Int32} {z : pZ} (hw : w ≠ 0) : pf (zFail S w z) ≠ 0 := by
  unfold zFail
  split
  · exact hw
  · assumption
theorem zUn_pg : ∀ e, pPg (zUn K S e)
  | 0, y, h, h0 => by
    rw [zUn] at h0 ⊢
    by_cases hf : pf y = 0
    · rw [if_pos hf] at h0 ⊢
      split at h0
      · rename_i c
        rw [if_pos c]
        obtain ⟨a1, a2, a3⟩ := zTake_pg h h0
        exact ⟨a1, by omega, a3⟩
      · exact absurd h0 (zFail_n (by split <;> decide))
    · rw [if_neg hf] at h0; exact absurd h0 hf
  | e + 1, y, h, h0 => by
    rw [zUn] at h0 ⊢
    by_cases hf : pf y = 0
    · rw [if_pos hf] at h0 ⊢
      by_cases c : K (pt y) = 3 ∨ (142 ≤ K (pt y) ∧ K (pt y) < 151)
      · rw [if_pos c] at h0 ⊢
        obtain ⟨a1, a2, a3⟩ := zTake_pg h h0
        exact ⟨a1, by omega, a3⟩
      · rw [if_neg c] at h0 ⊢
        by_cases c2 : K (pt y) = 40
        · rw [if_pos c2] at h0 ⊢
          have ht : pf (zTake S true y) = 0 → pt (zTake S true y) ≤ 400 := fun z => (zTake_pg h z).2.2
          have hs := zSu_pg (K := K) (S := S) (zUn_pg e) (zTake S true y) ht
          obtain ⟨a1, a2, a3⟩ := zTake_pg (fun z => (hs z).2.2) h0
          obtain ⟨b1, b2, b3⟩ := hs a1
          obtain ⟨c1, c2, c3⟩ := zTake_pg h b1
          refine ⟨c1, ?_, a3⟩
          show pt y ≤ pt (zTake S (decide (K (pt (zSu K S (zUn K S e) (zTake S true y))) = 41)) (zSu K S (zUn K S e) (zTake S true y)))
          omega
        · rw [if_neg c2] at h0
          exact absurd h0 (zFail_n (by decide))
    · rw [if_neg hf] at h0; exact absurd h0 hf
theorem zLoop_fu {c : Int32 → Bool} {u : pZ → pZ} (hu : pPg u) : ∀ (n : Nat) (z : pZ), (pf z = 0 → pt z ≤ 400) → (pf z = 0 → 401 - pt z ≤ n) → zLoop K S c u n z = zLoop K S c u (n + 1) z
  | 0, z, h, h1 => by
    have hf : pf z ≠ 0 := fun q => by have := h q; have := h1 q; omega
    rw [zLoop_f hf, zLoop_f hf]
  | n + 1, z, h, h1 => by
    rw [zLoop, zLoop]
    by_cases q : pf z = 0 ∧ c (K (pt z)) = true
    · rw [if_pos q, if_pos q]
      have ht : pf (zTake S true z) = 0 → pt (zTake S true z) ≤ 400 := fun x => (zTake_pg h x).2.2
      refine zLoop_fu hu n _ (fun x => (hu _ ht x).2.2) (fun x => ?_)
      obtain ⟨b1, b2, b3⟩ := hu _ ht x
      obtain ⟨c1, c2, c3⟩ := zTake_pg h b1
      have := h1 q.1
      omega
    · rw [if_neg q, if_neg q]
/-- behind a unit, with so many that may still open -/
def zTl (K S : Nat → Int32) (e : Nat) (z : pZ) : pZ := zLoop K S zAdd (zPr K S (zUn K S e)) 401 (zLoop K S zMul (zUn K S e) 401 z)
/-- behind a unit, so many open: up to the expression's end -/
def zAO (K S : Nat → Int32) : Nat → pZ → pZ
  | 0, z => zTl K S 6 z
  | o + 1, z => zAO K S o (zMust K S 41 (zTl K S (6 - (o + 1)) z))
theorem zEx_AO (z : pZ) : zEx K S z = zAO K S 0 (zUn K S 6 z) := rfl
theorem zTl_f {e : Nat} {z : pZ} (h : pf z ≠ 0) : zTl K S e z = z := by unfold zTl; rw [zLoop_f h, zLoop_f h]
theorem zAO_f : ∀ (o : Nat) {z : pZ}, pf z ≠ 0 → zAO K S o z = z
  | 0, z, h => zTl_f h
  | o + 1, z, h => by
    rw [zAO, zTl_f h]
    unfold zMust
    rw [zTake_f h, zAO_f o h]
theorem zTl_no {e : Nat} {z : pZ} (h1 : ¬ zMul (K (pt z)) = true) (h2 : ¬ zAdd (K (pt z)) = true) : zTl K S e z = z := by
  unfold zTl
  rw [zLoop_no h1, zLoop_no h2]
theorem zTl_op {e : Nat} {z : pZ} (hf : pf z = 0) (h4 : pt z ≤ 400) (h : zMul (K (pt z)) = true ∨ zAdd (K (pt z)) = true) : zTl K S e z = zTl K S e (zUn K S e (zTake S true z)) := by
  have hu := zUn_pg (K := K) (S := S) e
  have ht : pf (zTake S true z) = 0 → pt (zTake S true z) ≤ 400 := fun x => (zTake_pg (fun _ => h4) x).2.2
  have hu0 : pf (zUn K S e (zTake S true z)) = 0 → pt (zUn K S e (zTake S true z)) ≤ 400 := fun x => (hu _ ht x).2.2
  have hu1 : pf (zUn K S e (zTake S true z)) = 0 → pt z + 1 ≤ pt (zUn K S e (zTake S true z)) := fun x => by
    obtain ⟨b1, b2, b3⟩ := hu _ ht x
    obtain ⟨c1, c2, c3⟩ := zTake_pg (fun _ => h4) b1
    omega
  unfold zTl
  by_cases hm : zMul (K (pt z)) = true
  · rw [show zLoop K S zMul (zUn K S e) 401 z = zLoop K S zMul (zUn K S e) 400 (zUn K S e (zTake S true z)) from by rw [zLoop, if_pos ⟨hf, hm⟩], zLoop_fu hu 400 _ hu0 (fun x => by have := hu1 x; omega)]
  · have ha := h.resolve_left hm
    have hp := zPr_pg (K := K) (S := S) hu
    have hl := zLoop_pg (K := K) (S := S) (c := zMul) hu 401 (zUn K S e (zTake S true z)) hu0
    rw [zLoop_no hm, show zLoop K S zAdd (zPr K S (zUn K S e)) 401 z = zLoop K S zAdd (zPr K S (zUn K S e)) 400 (zPr K S (zUn K S e) (zTake S true z)) from by rw [zLoop, if_pos ⟨hf, ha⟩], show zPr K S (zUn K S e) (zTake S true z) = zLoop K S zMul (zUn K S e) 401 (zUn K S e (zTake S true z)) from rfl, zLoop_fu hp 400 _ (fun x => (hl x).2.2) (fun x => by
      obtain ⟨b1, b2, b3⟩ := hl x
      have := hu1 b1
      omega)]
theorem zAO_op {o : Nat} (ho : o ≤ 6) {z : pZ} (hf : pf z = 0) (h4 : pt z ≤ 400) (h : zMul (K (pt z)) = true ∨ zAdd (K (pt z)) = true) : zAO K S o z = zAO K S o (zUn K S (6 - o) (zTake S true z)) := by
  cases o with
  | zero => exact zTl_op hf h4 h
  | succ o => rw [zAO, zAO, zTl_op hf h4 h]
theorem op_41 : ¬ zMul 41 = true ∧ ¬ zAdd 41 = true := by decide
theorem zAO_close {o : Nat} {z : pZ} (h : K (pt z) = 41) : zAO K S (o + 1) z = zAO K S o (zMust K S 41 z) := by
  rw [zAO, zTl_no (by rw [h]; exact op_41.1) (by rw [h]; exact op_41.2)]
theorem zAO_end0 {z : pZ} (h1 : ¬ zMul (K (pt z)) = true) (h2 : ¬ zAdd (K (pt z)) = true) : zAO K S 0 z = z := zTl_no h1 h2
theorem zAO_end {o : Nat} {z : pZ} (hf : pf z = 0) (h : ¬ K (pt z) = 41) (h1 : ¬ zMul (K (pt z)) = true) (h2 : ¬ zAdd (K (pt z)) = true) : zAO K S (o + 1) z = zFail S 1 z := by
  have e : zMust K S 41 z = zFail S 1 z := by
    unfold zMust zTake zFail
    rw [if_pos hf, if_pos hf, decide_eq_false h, if_neg (by decide)]
  rw [zAO, zTl_no h1 h2, e, zAO_f o (zFail_n (by decide))]
theorem zAO_open {o : Nat} (ho : o < 6) {z : pZ} (hf : pf z = 0) (h : K (pt z) = 40) : zAO K S o (zUn K S (6 - o) z) = zAO K S (o + 1) (zUn K S (6 - (o + 1)) (zTake S true z)) := by
  have e : zUn K S (6 - o) z = zMust K S 41 (zSu K S (zUn K S (6 - (o + 1))) (zTake S true z)) := by
    rw [show 6 - o = (6 - (o + 1)) + 1 by omega, zUn, if_pos hf, if_neg (fun q => by rw [h] at q; exact absurd q (by decide)), if_pos h]
    rfl
  rw [e, zAO]
  rfl
theorem zUn_full {z : pZ} (hf : pf z = 0) (h : K (pt z) = 40) : zUn K S 0 z = zFail S 2 z := by
  rw [zUn, if_pos hf, if_neg (fun q => by rw [h] at q; exact absurd q (by decide)), if_pos h]
end
