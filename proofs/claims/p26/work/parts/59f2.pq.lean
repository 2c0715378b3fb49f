/-! ===== what a query answers, purely ===== -/
def qB (p : Nat → Bool) : Nat → Nat → Int32 → Int32 → Int32
  | 0, _, _, acc => acc
  | n + 1, e, y, acc => qB p n (e + 1) (y + 1) (if p e = true then acc ||| (1 <<< (y &&& 31)) else acc)
def qS (f : Nat → Int32) : Nat → Nat → Int32 → Int32
  | 0, _, acc => acc
  | n + 1, k, acc => qS f n (k + 1) (acc + f k)
theorem qB_f {p : Nat → Bool} {m e : Nat} {y acc : Int32} (h : p e = false) : qB p (m + 1) e y acc = qB p m (e + 1) (y + 1) acc := by
  rw [qB, if_neg (by rw [h]; decide)]
theorem qB_t {p : Nat → Bool} {m e : Nat} {y acc : Int32} (h : p e = true) : qB p (m + 1) e y acc = qB p m (e + 1) (y + 1) (acc ||| (1 <<< (y &&& 31))) := by
  rw [qB, if_pos h]
theorem qS_add (f : Nat → Int32) : ∀ (n m k : Nat) (acc : Int32), qS f (n + m) k acc = qS f m (k + n) (qS f n k acc)
  | 0, m, k, acc => by rw [Nat.zero_add, qS, Nat.add_zero]
  | n + 1, m, k, acc => by
    rw [show n + 1 + m = (n + m) + 1 by omega, qS, qS_add f n m (k + 1) (acc + f k), qS, show k + 1 + n = k + (n + 1) by omega]
theorem qS_z (f : Nat → Int32) : ∀ (n k : Nat) (acc : Int32), (∀ j, k ≤ j → j < k + n → f j = 0) → qS f n k acc = acc
  | 0, _, _, _ => rfl
  | n + 1, k, acc, h => by
    rw [qS, h k (by omega) (by omega), Int32.add_zero, qS_z f n (k + 1) acc (fun j a b => h j (by omega) (by omega))]
theorem qS_cg {f g : Nat → Int32} : ∀ (n k : Nat) (acc : Int32), (∀ j, k ≤ j → j < k + n → f j = g j) → qS f n k acc = qS g n k acc
  | 0, _, _, _ => rfl
  | n + 1, k, acc, h => by
    rw [qS, qS, h k (by omega) (by omega), qS_cg n (k + 1) _ (fun j a b => h j (by omega) (by omega))]
/-- the things seen from a place -/
def qSeesT (A : aD) (h w x : Int32) : Int32 := qB (fun e => decide (pSe A h w x (tX A e) (tT A e))) A.1.length 0 0 0
def qLoan (A : aD) (f : Nat → Int32) (x y w : Int32) : Int32 :=
  if ¬ (okS A x ∧ okT A y ∧ 0 ≤ w.toInt ∧ w.toInt ≤ 1) then -1
  else if f (24 + lnI x y) = 0 then -2
  else if w = 0 then f (24 + lnI x y) else f (60 + lnI x y)
def qLentOn (A : aD) (f : Nat → Int32) (a : Nat) : Int32 := qB (fun e => decide (¬ f (24 + (6 * a + e)) = 0)) A.1.length 0 0 0
def qLentBy (f : Nat → Int32) (a : Nat) : Int32 := qS (fun e => f (24 + (6 * a + e))) 6 0 0
def qSeat (A : aD) (f : Nat → Int32) (x w : Int32) : Int32 :=
  if ¬ okS A x then -1
  else if w = 0 then f x.toInt.toNat
  else if w = 1 then f (6 + x.toInt.toNat)
  else if w = 2 then qSeesT A (f 96) (pHt A (f 96)) (f x.toInt.toNat)
  else if w = 3 then qLentOn A f x.toInt.toNat
  else if w = 4 then qLentBy f x.toInt.toNat
  else if w = 5 then f (12 + x.toInt.toNat)
  else if w = 6 then f (18 + x.toInt.toNat)
  else -1
def qSeatsSee (A : aD) (f : Nat → Int32) (e : Nat) : Int32 := qB (fun a => decide (pSn A f a e)) A.2.1.length 0 0 0
def qSeatsLent (A : aD) (f : Nat → Int32) (e : Nat) : Int32 := qB (fun a => decide (¬ f (24 + (6 * a + e)) = 0)) A.2.1.length 0 0 0
def qThing (A : aD) (f : Nat → Int32) (x w : Int32) : Int32 :=
  if ¬ okT A x then -1
  else if w = 0 then tX A x.toInt.toNat
  else if w = 1 then tT A x.toInt.toNat
  else if w = 2 then qSeatsSee A f x.toInt.toNat
  else if w = 3 then qSeatsLent A f x.toInt.toNat
  else -1
def qTells (A : aD) (f : Nat → Int32) (w x y m : Int32) : Int32 :=
  if w = 0 then pHt A (f 96)
  else if w = 1 then (if okX x ∧ okT A y then pMv A (f 96) (pHt A (f 96)) x (tX A y.toInt.toNat) (tT A y.toInt.toNat) else -100)
  else if w = 2 then (if (okX x ∧ okT A y) ∧ 0 ≤ m.toInt ∧ m.toInt ≤ 999 then pRt A (f 96) (pHt A (f 96)) x (tX A y.toInt.toNat) (tT A y.toInt.toNat) m else -100)
  else if w = 3 then (if 0 ≤ m.toInt ∧ m.toInt ≤ 999 then pIn A (f 96) (pHt A (f 96)) m else -100)
  else -100
/-- at an hour, from a place -/
def pSight (A : aD) (h x : Int32) (e : Nat) : Int32 := if pSp A h (pHt A h) x (tX A e) (tT A e) = -1 then -2 else pSp A h (pHt A h) x (tX A e) (tT A e)
def qSight (A : aD) (f : Nat → Int32) (x y m : Int32) : Int32 :=
  if ¬ (okX x ∧ okT A y ∧ okH m) then -1 else pSight A (f 96 + m) x y.toInt.toNat
