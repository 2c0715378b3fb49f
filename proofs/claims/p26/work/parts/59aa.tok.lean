/-! ===== the text's tokens, as both have them ===== -/
def pBl (c : Int32) : Bool := decide (c = 9 ∨ c = 10 ∨ c = 13 ∨ c = 32)
def pLe (c : Int32) : Bool := decide (97 ≤ c ∧ c ≤ 122)
def pDi (c : Int32) : Bool := decide (48 ≤ c ∧ c ≤ 57)
def pSg (c : Int32) : Bool := decide (c = 59 ∨ c = 61 ∨ c = 43 ∨ c = 45 ∨ c = 42 ∨ c = 47 ∨ c = 60 ∨ c = 40 ∨ c = 41)
/-- the first place from i on where it isn't so -/
def pRun (p : Int32 → Bool) (c : Nat → Int32) (n : Nat) : Nat → Nat → Nat
  | 0, i => i
  | m + 1, i => if i < n ∧ p (c i) = true then pRun p c n m (i + 1) else i
def pEnd (p : Int32 → Bool) (c : Nat → Int32) (n i : Nat) : Nat := pRun p c n (n - i) i
section
variable {p : Int32 → Bool} {c : Nat → Int32} {n i : Nat}
theorem pEnd_go (h : i < n) (hp : p (c i) = true) : pEnd p c n i = pEnd p c n (i + 1) := by
  unfold pEnd
  rw [show n - i = (n - (i + 1)) + 1 by omega]
  show (if i < n ∧ p (c i) = true then pRun p c n (n - (i + 1)) (i + 1) else i) = _
  rw [if_pos ⟨h, hp⟩]
theorem pEnd_no (h : ¬ (i < n ∧ p (c i) = true)) : pEnd p c n i = i := by
  unfold pEnd
  cases hm : n - i with
  | zero => rfl
  | succ m =>
    show (if i < n ∧ p (c i) = true then pRun p c n m (i + 1) else i) = i
    rw [if_neg h]
theorem pEnd_le (h : i ≤ n) : i ≤ pEnd p c n i ∧ pEnd p c n i ≤ n := by
  have go : ∀ m i, n - i = m → i ≤ n → i ≤ pEnd p c n i ∧ pEnd p c n i ≤ n := by
    intro m
    induction m with
    | zero =>
      intro i hm hi
      rw [pEnd_no (fun q => by omega)]
      omega
    | succ m ih =>
      intro i hm hi
      by_cases q : i < n ∧ p (c i) = true
      · rw [pEnd_go q.1 q.2]
        have := ih (i + 1) (by omega) (by omega)
        omega
      · rw [pEnd_no q]
        omega
  exact go _ i rfl h
end
def pKey (c : Nat → Int32) (i : Nat) : Nat → Int64
  | 0 => 0
  | m + 1 => pKey c i m * 27 + ((c (i + m) - 97) + 1).toInt64
def pNum (c : Nat → Int32) (i : Nat) : Nat → Int64
  | 0 => 0
  | m + 1 => pNum c i m * 10 + (c (i + m) - 48).toInt64
/-- which word it is, or a name -/
def pWf (w : Nat → Int64) (key : Int64) : Nat → Int32 → Int32
  | 0, _ => 2
  | m + 1, k => if w k.toNatClampNeg = key then 128 + k else pWf w key m (k + 1)
def pW (w : Nat → Int64) (key : Int64) : Int32 := pWf w key 23 0
/-- the token that begins at i: its kind, what it is worth, what comes behind it -/
def pKd (w : Nat → Int64) (c : Nat → Int32) (n i : Nat) : Int32 :=
  if n ≤ i then 0 else if pLe (c i) = true then (if 8 < pEnd pLe c n i - i then 1 else pW w (pKey c i (pEnd pLe c n i - i))) else if pDi (c i) = true then (if 4 < pEnd pDi c n i - i then 1 else 3) else if pSg (c i) = true then c i else 1
def pVl (c : Nat → Int32) (n i : Nat) : Int64 := if pLe (c i) = true then pKey c i (pEnd pLe c n i - i) else pNum c i (pEnd pDi c n i - i)
def pNx (c : Nat → Int32) (n i : Nat) : Nat := if n ≤ i then i else if pLe (c i) = true then pEnd pLe c n i else if pDi (c i) = true then pEnd pDi c n i else i + 1
def pPo (c : Nat → Int32) (n : Nat) : Nat → Nat
  | 0 => 0
  | k + 1 => pNx c n (pEnd pBl c n (pPo c n k))
/-- where the token begins -/
def pSt (c : Nat → Int32) (n k : Nat) : Nat := pEnd pBl c n (pPo c n k)
theorem pNx_le {c : Nat → Int32} {n i : Nat} (h : i ≤ n) : i ≤ pNx c n i ∧ pNx c n i ≤ n := by
  unfold pNx
  split
  · omega
  · split
    · exact pEnd_le h
    · split
      · exact pEnd_le h
      · omega
theorem pPo_le (c : Nat → Int32) (n : Nat) : ∀ k, pPo c n k ≤ n
  | 0 => Nat.zero_le _
  | k + 1 => (pNx_le (pEnd_le (pPo_le c n k)).2).2
theorem pSt_le (c : Nat → Int32) (n k : Nat) : pSt c n k ≤ n := (pEnd_le (pPo_le c n k)).2
