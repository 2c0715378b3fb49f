/-! ===== the tokens hang on the text's bytes and the words alone; what holds of them ===== -/
section
variable {c c' : Nat → Int32} {n : Nat}
theorem pEnd_congr {p : Int32 → Bool} (h : ∀ i, i < n → c' i = c i) : ∀ i, pEnd p c' n i = pEnd p c n i := by
  have go : ∀ m i, n - i = m → pEnd p c' n i = pEnd p c n i := by
    intro m
    induction m with
    | zero =>
      intro i hm
      rw [pEnd_no (fun q => by omega), pEnd_no (fun q => by omega)]
    | succ m ih =>
      intro i hm
      by_cases q : p (c i) = true
      · rw [pEnd_go (by omega) q, pEnd_go (by omega) (by rw [h i (by omega)]; exact q)]
        exact ih (i + 1) (by omega)
      · rw [pEnd_no (fun x => q x.2), pEnd_no (fun x => q (by rw [← h i x.1]; exact x.2))]
  exact fun i => go _ i rfl
theorem pKey_congr {i : Nat} : ∀ m, i + m ≤ n → (∀ i, i < n → c' i = c i) → pKey c' i m = pKey c i m
  | 0, _, _ => rfl
  | m + 1, hm, h => by rw [pKey, pKey, pKey_congr m (by omega) h, h (i + m) (by omega)]
theorem pNum_congr {i : Nat} : ∀ m, i + m ≤ n → (∀ i, i < n → c' i = c i) → pNum c' i m = pNum c i m
  | 0, _, _ => rfl
  | m + 1, hm, h => by rw [pNum, pNum, pNum_congr m (by omega) h, h (i + m) (by omega)]
theorem pNx_congr (h : ∀ i, i < n → c' i = c i) (i : Nat) : pNx c' n i = pNx c n i := by
  unfold pNx
  by_cases q : n ≤ i
  · rw [if_pos q, if_pos q]
  · rw [if_neg q, if_neg q, h i (by omega), pEnd_congr h, pEnd_congr h]
theorem pPo_congr (h : ∀ i, i < n → c' i = c i) : ∀ k, pPo c' n k = pPo c n k
  | 0 => rfl
  | k + 1 => by rw [pPo, pPo, pPo_congr h k, pEnd_congr h, pNx_congr h]
theorem pSt_congr (h : ∀ i, i < n → c' i = c i) (k : Nat) : pSt c' n k = pSt c n k := by unfold pSt; rw [pPo_congr h, pEnd_congr h]
theorem pVl_congr (h : ∀ i, i < n → c' i = c i) {i : Nat} (hi : i < n) : pVl c' n i = pVl c n i := by
  unfold pVl
  have e1 := (pEnd_le (p := pLe) (c := c) (Nat.le_of_lt hi)).2
  have e2 := (pEnd_le (p := pDi) (c := c) (Nat.le_of_lt hi)).2
  have e3 := (pEnd_le (p := pLe) (c := c) (Nat.le_of_lt hi)).1
  have e4 := (pEnd_le (p := pDi) (c := c) (Nat.le_of_lt hi)).1
  rw [h i hi, pEnd_congr h, pEnd_congr h, pKey_congr _ (by omega) h, pNum_congr _ (by omega) h]
theorem pWf_congr {w w' : Nat → Int64} {key : Int64} : ∀ (m : Nat) (k : Int32), 0 ≤ k.toInt → k.toInt + m ≤ 23 → (∀ a, a < 23 → w' a = w a) → pWf w' key m k = pWf w key m k
  | 0, _, _, _, _ => rfl
  | m + 1, k, h0, h1, h => by
    rw [pWf, pWf, h k.toNatClampNeg (by rw [tcn]; omega), pWf_congr m (k + 1) (by rw [i_s (by omega)]; omega) (by rw [i_s (by omega)]; omega) h]
theorem pKd_congr {w w' : Nat → Int64} (hw : ∀ a, a < 23 → w' a = w a) (h : ∀ i, i < n → c' i = c i) (i : Nat) : pKd w' c' n i = pKd w c n i := by
  unfold pKd
  by_cases q : n ≤ i
  · rw [if_pos q, if_pos q]
  · have hi : i < n := by omega
    have e1 := (pEnd_le (p := pLe) (c := c) (Nat.le_of_lt hi)).2
    have e3 := (pEnd_le (p := pLe) (c := c) (Nat.le_of_lt hi)).1
    rw [if_neg q, if_neg q, h i hi, pEnd_congr h, pEnd_congr h, pKey_congr _ (by omega) h]
    unfold pW
    rw [pWf_congr 23 0 (by decide) (by decide) hw]
/-- what the tokens are, up to the last that may be looked at -/
def pSpec (w : Nat → Int64) (c : Nat → Int32) (n : Nat) (K S : Nat → Int32) (N : Nat → Int64) : Prop := ∀ j, j < 401 → K j = pKd w c n (pSt c n j) ∧ (S j).toInt = pSt c n j ∧ (K j = 3 ∨ K j = 2 → N j = pVl c n (pSt c n j))
theorem pKd_end {w : Nat → Int64} {i : Nat} (h : n ≤ i) : pKd w c n i = 0 := by unfold pKd; rw [if_pos h]
theorem pSpec_congr {w w' : Nat → Int64} {K S : Nat → Int32} {N : Nat → Int64} (hw : ∀ a, a < 23 → w' a = w a) (h : ∀ i, i < n → c' i = c i) (hs : pSpec w c n K S N) : pSpec w' c' n K S N := by
  intro j hj
  obtain ⟨h1, h2, h3⟩ := hs j hj
  rw [pSt_congr h, pKd_congr hw h]
  refine ⟨h1, h2, fun q => ?_⟩
  rw [h3 q]
  by_cases e : n ≤ pSt c n j
  · rw [h1, pKd_end e] at q
    exact absurd q (by decide)
  · exact (pVl_congr h (by omega)).symm
theorem pNx_lt {i : Nat} (h : i < n) : i < pNx c n i := by
  unfold pNx
  rw [if_neg (by omega)]
  by_cases q : pLe (c i) = true
  · rw [if_pos q, pEnd_go h q]
    have := (pEnd_le (p := pLe) (c := c) (i := i + 1) (n := n) h).1
    omega
  · rw [if_neg q]
    by_cases q2 : pDi (c i) = true
    · rw [if_pos q2, pEnd_go h q2]
      have := (pEnd_le (p := pDi) (c := c) (i := i + 1) (n := n) h).1
      omega
    · rw [if_neg q2]
      omega
theorem pSt_lt {j : Nat} (h : pSt c n j < n) : pSt c n j < pSt c n (j + 1) := by
  have h1 : pSt c n j < pNx c n (pSt c n j) := pNx_lt h
  have h2 : pPo c n (j + 1) ≤ pSt c n (j + 1) := (pEnd_le (pPo_le c n (j + 1))).1
  have h3 : pPo c n (j + 1) = pNx c n (pSt c n j) := rfl
  omega
/-- up to the first that is the end -/
theorem pFirst : ∀ k, 1 ≤ k → k ≤ 401 → (k = 401 ∨ pSt c n (k - 1) = n) → ∃ T, (1 ≤ T ∧ T ≤ k) ∧ (T = 401 ∨ pSt c n (T - 1) = n) ∧ ∀ j, j + 1 < T → pSt c n j < n := by
  intro k
  induction k using Nat.strongRecOn with
  | ind k ih =>
    intro h1 h4 h
    by_cases q : ∀ j, j + 1 < k → pSt c n j < n
    · exact ⟨k, ⟨h1, Nat.le_refl _⟩, h, q⟩
    · obtain ⟨j, hj⟩ := Classical.not_forall.mp q
      obtain ⟨hj1, hj2⟩ := Classical.not_imp.mp hj
      have e : pSt c n j = n := by have := pSt_le c n j; omega
      obtain ⟨T, t1, t2, t3⟩ := ih (j + 1) hj1 (by omega) (by omega) (Or.inr e)
      exact ⟨T, ⟨t1.1, by omega⟩, t2, t3⟩
end
