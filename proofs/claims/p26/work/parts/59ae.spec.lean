/-! ===== what a text's tokens come to: the fault or none ===== -/
/-- the token it stands at, the fault, its place; what counts if there is none; names; things; seats -/
abbrev pZ : Type := (Nat × Int32 × Int32) × (Int32 × Int32) × List Int64 × Nat × Nat
abbrev pt (z : pZ) : Nat := z.1.1
abbrev pf (z : pZ) : Int32 := z.1.2.1
abbrev pq (z : pZ) : Int32 := z.1.2.2
section
variable (K S : Nat → Int32) (N : Nat → Int64)
def zFail (w : Int32) (z : pZ) : pZ := if pf z = 0 then ((pt z, w, S (pt z)), z.2) else z
def zTake (b : Bool) (z : pZ) : pZ := if pf z = 0 then (if b = true then (if 400 ≤ pt z then ((pt z, 2, S (pt z)), z.2) else ((pt z + 1, 0, pq z), z.2)) else ((pt z, 1, S (pt z)), z.2)) else z
def zNote (w p : Int32) (z : pZ) : pZ := if z.2.1.1 = 0 then (z.1, (w, p), z.2.2) else z
def zInt (lo hi : Int32) (z : pZ) : pZ := if pf (zTake S (decide (K (pt z) = 3)) z) = 0 ∧ ((N (pt z)).toInt32 < lo ∨ hi < (N (pt z)).toInt32) then zNote 5 (S (pt z)) (zTake S (decide (K (pt z) = 3)) z) else zTake S (decide (K (pt z) = 3)) z
def zName (z : pZ) : pZ := if pf (zTake S (decide (K (pt z) = 2)) z) = 0 then (if N (pt z) ∈ z.2.2.1 then zNote 3 (S (pt z)) (zTake S (decide (K (pt z) = 2)) z) else ((zTake S (decide (K (pt z) = 2)) z).1, z.2.1, N (pt z) :: z.2.2.1, z.2.2.2)) else zTake S (decide (K (pt z) = 2)) z
def zStand (th : Bool) (z : pZ) : pZ :=
  (fun y : pZ => if pf y = 0 then (if th = true then (y.1, y.2.1, y.2.2.1, y.2.2.2.1 + 1, y.2.2.2.2) else (y.1, y.2.1, y.2.2.1, y.2.2.2.1, y.2.2.2.2 + 1)) else y) (if th = true then zInt K S N 1 9 (zInt K S N 0 19 (zName K S N z)) else zInt K S N 0 999 (zInt K S N 0 19 (zName K S N z)))
def zLoop (c : Int32 → Bool) (body : pZ → pZ) : Nat → pZ → pZ
  | 0, z => z
  | k + 1, z => if pf z = 0 ∧ c (K (pt z)) = true then zLoop c body k (body (zTake S true z)) else z
def zMul (k : Int32) : Bool := decide (k = 42 ∨ k = 47)
def zAdd (k : Int32) : Bool := decide (k = 43 ∨ k = 45)
def zPr (u : pZ → pZ) (z : pZ) : pZ := zLoop K S zMul u 401 (u z)
def zSu (u : pZ → pZ) (z : pZ) : pZ := zLoop K S zAdd (zPr K S u) 401 (zPr K S u z)
/-- a unit, with so many that may still open -/
def zUn : Nat → pZ → pZ
  | 0, z => if pf z = 0 then (if K (pt z) = 3 ∨ (142 ≤ K (pt z) ∧ K (pt z) < 151) then zTake S true z else zFail S (if K (pt z) = 40 then 2 else 1) z) else z
  | e + 1, z => if pf z = 0 then (if K (pt z) = 3 ∨ (142 ≤ K (pt z) ∧ K (pt z) < 151) then zTake S true z else if K (pt z) = 40 then (fun y => zTake S (decide (K (pt y) = 41)) y) (zSu K S (zUn e) (zTake S true z)) else zFail S 1 z) else z
def zEx (z : pZ) : pZ := zSu K S (zUn K S 6) z
def zMust (k : Int32) (z : pZ) : pZ := zTake S (decide (K (pt z) = k)) z
/-- one test of a law, and what it gives -/
def zIf (z : pZ) : pZ := zMust K S 141 (zEx K S (zMust K S 140 (zEx K S (zMust K S 60 (zEx K S (zTake S true z))))))
def zIfs : Nat → pZ → pZ
  | 0, z => if pf z = 0 ∧ K (pt z) = 139 then zIf K S (zFail S 2 z) else z
  | n + 1, z => if pf z = 0 ∧ K (pt z) = 139 then zIfs n (zIf K S z) else z
def zLaw (z : pZ) : pZ := zEx K S (zIfs K S 4 (zMust K S 61 z))
def zSet (k : Int32) (z : pZ) : pZ := if k = 135 then zInt K S N 1 99 z else if k = 136 then zInt K S N 0 100 z else if k = 137 then zInt K S N 0 23 z else if k = 138 then zInt K S N 0 9999 z else zFail S 1 z
def zTell (z : pZ) : pZ :=
  (fun y : pZ => zMust K S 59 (if K (pt z) = 128 then zStand K S N true y else if K (pt z) = 129 then zStand K S N false y else if 130 ≤ K (pt z) ∧ K (pt z) < 135 then zLaw K S y else zSet K S N (K (pt z)) y))
    (zTake S (decide (128 ≤ K (pt z) ∧ K (pt z) ≤ 138)) (if (K (pt z) = 128 ∧ 6 ≤ z.2.2.2.1) ∨ (K (pt z) = 129 ∧ 6 ≤ z.2.2.2.2) then zFail S 2 z else z))
def zAll : Nat → pZ → pZ
  | 0, z => z
  | n + 1, z => if pf z = 0 ∧ ¬ K (pt z) = 0 then zAll n (zTell K S N z) else z
def zText : pZ := zAll K S N 401 ((0, 0, 0), (0, 0), [], 0, 0)
end
/-- the answer, and the place -/
def zAns (z : pZ) : Int32 := if pf z = 0 then z.2.1.1 else pf z
def zPlc (z : pZ) : Int32 := if pf z = 0 then (if z.2.1.1 = 0 then -1 else z.2.1.2) else pq z
