/-! ===== the runner: a method's code as composed steps over numbers; what it finds true holds of the machine ===== -/
/-! an int, known or between two bounds, as one number: its value and 2^31 more, or (lo + 1) * 2^32 + hi -/
def zb (x : Int32) : Nat := (x.toInt + 2147483648).toNat
def zc (c : Nat) : Int32 := Int32.ofInt ((c : Int) - 2147483648)
theorem zb_int (x : Int32) : ((zb x : Nat) : Int) = x.toInt + 2147483648 := by
  have := Int32.le_toInt x
  unfold zb
  omega
theorem zb_lt (x : Int32) : zb x < 4294967296 := by
  have h1 := zb_int x
  have h2 := Int32.toInt_lt x
  omega
theorem zb_inj {x y : Int32} (h : zb x = zb y) : x = y := by
  have h1 := zb_int x
  have h2 := zb_int y
  exact Int32.toInt_inj.mp (by omega)
theorem zc_zb (x : Int32) : zc (zb x) = x := by
  unfold zc
  rw [zb_int]
  rw [show x.toInt + 2147483648 - 2147483648 = x.toInt by omega]
  exact Int32.ofInt_toInt x
def zlo (c : Nat) : Nat := bif Nat.ble 4294967296 c then Nat.sub (Nat.div c 4294967296) 1 else c
def zhi (c : Nat) : Nat := Nat.mod c 4294967296
def zin (c : Nat) (x : Int32) : Prop := zlo c ≤ zb x ∧ zb x ≤ zhi c
def ztop : Nat := 8589934591
theorem zin_top (x : Int32) : zin ztop x := ⟨Nat.zero_le _, by have := zb_lt x; show zb x ≤ 4294967295; omega⟩
def zk (c : Nat) : Bool := Nat.ble c 4294967295
theorem zk_in {c : Nat} {x : Int32} (h : zk c = true) (hi : zin c x) : zb x = c := by
  have h1 : c ≤ 4294967295 := Nat.le_of_ble_eq_true h
  obtain ⟨h2, h3⟩ := hi
  have e1 : zlo c = c := by
    unfold zlo
    have : Nat.ble 4294967296 c = false := by
      cases hb : Nat.ble 4294967296 c with
      | false => rfl
      | true => have := Nat.le_of_ble_eq_true hb; omega
    rw [this]
    rfl
  have e2 : zhi c = c := Nat.mod_eq_of_lt (by omega)
  rw [e1] at h2
  rw [e2] at h3
  omega
theorem zin_b (x : Int32) : zin (zb x) x := by
  have h := zb_lt x
  have e1 : zlo (zb x) = zb x := by
    unfold zlo
    have : Nat.ble 4294967296 (zb x) = false := by
      cases hb : Nat.ble 4294967296 (zb x) with
      | false => rfl
      | true => have := Nat.le_of_ble_eq_true hb; omega
    rw [this]
    rfl
  have e2 : zhi (zb x) = zb x := Nat.mod_eq_of_lt h
  exact ⟨by rw [e1]; exact Nat.le_refl _, by rw [e2]; exact Nat.le_refl _⟩
theorem zin_eq {c : Nat} {x : Int32} (h : zb x = c) : zin c x := h ▸ zin_b x
theorem zmod_e (a b : Nat) : Nat.mod a b = a % b := rfl
theorem zadd_e (a b : Nat) : Nat.add a b = a + b := rfl
theorem zsub_e (a b : Nat) : Nat.sub a b = a - b := rfl
theorem zdiv_e (a b : Nat) : Nat.div a b = a / b := rfl
def zop1 (f : Int32 → Int32) (a : Nat) : Nat := bif zk a then zb (f (zc a)) else ztop
def zop2 (f : Int32 → Int32 → Int32) (a b : Nat) : Nat := bif zk a then (bif zk b then zb (f (zc a) (zc b)) else ztop) else ztop
theorem zop1_in {f : Int32 → Int32} {a : Nat} {x : Int32} (h : zin a x) : zin (zop1 f a) (f x) := by
  unfold zop1
  cases ha : zk a with
  | false => exact zin_top _
  | true =>
    have := zk_in ha h
    subst this
    show zin (zb (f (zc (zb x)))) (f x)
    rw [zc_zb]
    exact zin_b _
theorem zop2_in {f : Int32 → Int32 → Int32} {a b : Nat} {x y : Int32} (h : zin a x) (hy : zin b y) : zin (zop2 f a b) (f x y) := by
  unfold zop2
  cases ha : zk a with
  | false => exact zin_top _
  | true =>
    cases hb : zk b with
    | false => exact zin_top _
    | true =>
      have h1 := zk_in ha h
      have h2 := zk_in hb hy
      subst h1
      subst h2
      show zin (zb (f (zc (zb x)) (zc (zb y)))) (f x y)
      rw [zc_zb, zc_zb]
      exact zin_b _
def zmkc (lo hi : Nat) : Nat := bif Nat.beq lo hi then lo else Nat.add (Nat.mul (Nat.succ lo) 4294967296) hi
theorem zmkc_in {lo hi : Nat} {x : Int32} (h : hi < 4294967296) (h1 : lo ≤ zb x) (h2 : zb x ≤ hi) : zin (zmkc lo hi) x := by
  unfold zmkc
  cases hb : Nat.beq lo hi with
  | true =>
    have e := Nat.eq_of_beq_eq_true hb
    rw [cond_true]
    exact zin_eq (by omega)
  | false =>
    rw [cond_false, zadd_e, show Nat.mul (Nat.succ lo) 4294967296 = (lo + 1) * 4294967296 from rfl]
    have e1 : zlo ((lo + 1) * 4294967296 + hi) = lo := by
      unfold zlo
      rw [show Nat.ble 4294967296 ((lo + 1) * 4294967296 + hi) = true from Nat.ble_eq_true_of_le (by omega), cond_true, zdiv_e, zsub_e]
      omega
    have e2 : zhi ((lo + 1) * 4294967296 + hi) = hi := by
      unfold zhi
      rw [zmod_e]
      omega
    exact ⟨by rw [e1]; exact h1, by rw [e2]; exact h2⟩
def zaddi (a b : Nat) : Nat := bif Nat.ble 2147483648 (Nat.add (zlo a) (zlo b)) then (bif Nat.ble (Nat.add (zhi a) (zhi b)) 6442450943 then zmkc (Nat.sub (Nat.add (zlo a) (zlo b)) 2147483648) (Nat.sub (Nat.add (zhi a) (zhi b)) 2147483648) else ztop) else ztop
def zsubi (a b : Nat) : Nat := bif Nat.ble (zhi b) (Nat.add (zlo a) 2147483648) then (bif Nat.ble (Nat.add (zhi a) 2147483648) (Nat.add (zlo b) 4294967295) then zmkc (Nat.sub (Nat.add (zlo a) 2147483648) (zhi b)) (Nat.sub (Nat.add (zhi a) 2147483648) (zlo b)) else ztop) else ztop
theorem zaddi_in {a b : Nat} {x y : Int32} (h : zin a x) (hy : zin b y) : zin (zaddi a b) (x + y) := by
  unfold zaddi
  cases h1 : Nat.ble 2147483648 (Nat.add (zlo a) (zlo b)) with
  | false => exact zin_top _
  | true =>
    cases h2 : Nat.ble (Nat.add (zhi a) (zhi b)) 6442450943 with
    | false => exact zin_top _
    | true =>
      have g1 := Nat.le_of_ble_eq_true h1
      have g2 := Nat.le_of_ble_eq_true h2
      rw [zadd_e] at g1 g2
      have e1 := zb_int x
      have e2 := zb_int y
      have e3 := zb_int (x + y)
      obtain ⟨a1, a2⟩ := h
      obtain ⟨b1, b2⟩ := hy
      rw [cond_true, cond_true, zadd_e, zadd_e, zsub_e, zsub_e]
      rw [Int32.toInt_add, Int.bmod_def] at e3
      refine zmkc_in (by omega) ?_ ?_ <;> split at e3 <;> omega
theorem zsubi_in {a b : Nat} {x y : Int32} (h : zin a x) (hy : zin b y) : zin (zsubi a b) (x - y) := by
  unfold zsubi
  cases h1 : Nat.ble (zhi b) (Nat.add (zlo a) 2147483648) with
  | false => exact zin_top _
  | true =>
    cases h2 : Nat.ble (Nat.add (zhi a) 2147483648) (Nat.add (zlo b) 4294967295) with
    | false => exact zin_top _
    | true =>
      have g1 := Nat.le_of_ble_eq_true h1
      have g2 := Nat.le_of_ble_eq_true h2
      rw [zadd_e] at g1 g2
      rw [zadd_e] at g2
      have e1 := zb_int x
      have e2 := zb_int y
      have e3 := zb_int (x - y)
      obtain ⟨a1, a2⟩ := h
      obtain ⟨b1, b2⟩ := hy
      rw [cond_true, cond_true, zadd_e, zadd_e, zsub_e, zsub_e]
      rw [Int32.toInt_sub, Int.bmod_def] at e3
      refine zmkc_in (by omega) ?_ ?_ <;> split at e3 <;> omega
def zadd (a b : Nat) : Nat := bif zk a then (bif zk b then Nat.mod (Nat.add (Nat.add a b) 2147483648) 4294967296 else zaddi a b) else zaddi a b
def zsub (a b : Nat) : Nat := bif zk a then (bif zk b then Nat.mod (Nat.sub (Nat.add a 6442450944) b) 4294967296 else zsubi a b) else zsubi a b
theorem zadd_in {a b : Nat} {x y : Int32} (h : zin a x) (hy : zin b y) : zin (zadd a b) (x + y) := by
  unfold zadd
  cases ha : zk a with
  | false => exact zaddi_in h hy
  | true =>
    cases hb : zk b with
    | false => exact zaddi_in h hy
    | true =>
      have h1 := zk_in ha h
      have h2 := zk_in hb hy
      subst h1
      subst h2
      refine zin_eq ?_
      rw [cond_true, cond_true, zmod_e, zadd_e, zadd_e]
      have e1 := zb_int x
      have e2 := zb_int y
      have e3 := zb_int (x + y)
      rw [Int32.toInt_add, Int.bmod_def] at e3
      split at e3 <;> omega
theorem zsub_in {a b : Nat} {x y : Int32} (h : zin a x) (hy : zin b y) : zin (zsub a b) (x - y) := by
  unfold zsub
  cases ha : zk a with
  | false => exact zsubi_in h hy
  | true =>
    cases hb : zk b with
    | false => exact zsubi_in h hy
    | true =>
      have h1 := zk_in ha h
      have h2 := zk_in hb hy
      subst h1
      subst h2
      refine zin_eq ?_
      rw [cond_true, cond_true, zmod_e, zsub_e, zadd_e]
      have e1 := zb_int x
      have e2 := zb_int y
      have e3 := zb_int (x - y)
      have e4 := zb_lt y
      rw [Int32.toInt_sub, Int.bmod_def] at e3
      split at e3 <;> omega
theorem zmuln {x y : Int32} {p q : Nat} (hx : x.toInt = (p : Int)) (hy : y.toInt = (q : Int)) (h : p * q < 2147483648) : (x * y).toInt = ((p * q : Nat) : Int) := by
  rw [Int32.toInt_mul, hx, hy, ← Int.natCast_mul, Jvm.Kit.bmod32 (by omega) (by omega)]
theorem zlt_iff {x y : Int32} : x < y ↔ zb x < zb y := by
  have e1 := zb_int x
  have e2 := zb_int y
  rw [Int32.lt_iff_toInt_lt]
  omega
theorem zle_iff {x y : Int32} : x ≤ y ↔ zb x ≤ zb y := by
  have e1 := zb_int x
  have e2 := zb_int y
  rw [Int32.le_iff_toInt_le]
  omega
/-! rows of anything, with a default -/
noncomputable def zn {α : Type} (d : α) (l : List α) (i : Nat) : α := List.rec (motive := fun _ => Nat → α) (fun _ => d) (fun x _ ih i => Nat.rec x (fun j _ => ih j) i) l i
noncomputable def zs {α : Type} (d : α) (l : List α) (i : Nat) (v : α) : List α := List.rec (motive := fun _ => Nat → List α) (fun i => Nat.rec [v] (fun _ ih => d :: ih) i) (fun x l ih i => Nat.rec (v :: l) (fun j _ => x :: ih j) i) l i
theorem zn_s {α : Type} (d x : α) (l : List α) (i : Nat) : zn d (x :: l) (i + 1) = zn d l i := rfl
theorem zs_nils {α : Type} (d v : α) (i : Nat) : zs d [] (i + 1) v = d :: zs d [] i v := rfl
theorem zs_s {α : Type} (d x v : α) (l : List α) (i : Nat) : zs d (x :: l) (i + 1) v = x :: zs d l i v := rfl
theorem zn_zs {α : Type} (d v : α) : ∀ (l : List α) (i j : Nat), zn d (zs d l i v) j = if j = i then v else zn d l j
  | [], 0, 0 => rfl
  | [], 0, j + 1 => by rw [if_neg (by omega)]; rfl
  | [], i + 1, 0 => by rw [if_neg (by omega)]; rfl
  | [], i + 1, j + 1 => by
    rw [zs_nils, zn_s, zn_zs d v [] i j]
    by_cases h : j = i
    · rw [if_pos h, if_pos (by omega)]
    · rw [if_neg h, if_neg (by omega)]; rfl
  | x :: l, 0, 0 => rfl
  | x :: l, 0, j + 1 => by rw [if_neg (by omega)]; rfl
  | x :: l, i + 1, 0 => by rw [if_neg (by omega)]; rfl
  | x :: l, i + 1, j + 1 => by
    rw [zs_s, zn_s, zn_zs d v l i j]
    by_cases h : j = i
    · rw [if_pos h, if_pos (by omega)]
    · rw [if_neg h, if_neg (by omega)]; rfl
/-! memory: cells in rows of eight of eight; a cell is one number: its sort, its length, its places of 65 bits -/
abbrev zAm : Type := List (List (List Nat))
noncomputable def zcell (A : zAm) (k : Nat) : Nat := zn 31 (zn [] (zn [] A (Nat.div k 64)) (Nat.mod (Nat.div k 8) 8)) (Nat.mod k 8)
noncomputable def zput (A : zAm) (k m : Nat) : zAm := zs [] A (Nat.div k 64) (zs [] (zn [] A (Nat.div k 64)) (Nat.mod (Nat.div k 8) 8) (zs 31 (zn [] (zn [] A (Nat.div k 64)) (Nat.mod (Nat.div k 8) 8)) (Nat.mod k 8) m))
theorem zcell_put (A : zAm) (k m j : Nat) : zcell (zput A k m) j = if j = k then m else zcell A j := by
  unfold zcell zput
  rw [zn_zs]
  by_cases h1 : Nat.div j 64 = Nat.div k 64
  · rw [if_pos h1, zn_zs]
    by_cases h2 : Nat.mod (Nat.div j 8) 8 = Nat.mod (Nat.div k 8) 8
    · rw [if_pos h2, zn_zs]
      by_cases h3 : Nat.mod j 8 = Nat.mod k 8
      · have : j = k := by
          have h1' : j / 64 = k / 64 := h1
          have h2' : j / 8 % 8 = k / 8 % 8 := h2
          have h3' : j % 8 = k % 8 := h3
          omega
        rw [if_pos h3, if_pos this]
      · rw [if_neg h3, if_neg (fun e => h3 (by rw [e])), h1, h2]
    · rw [if_neg h2, if_neg (fun e => h2 (by rw [e])), h1]
  · rw [if_neg h1, if_neg (fun e => h1 (by rw [e]))]
def ztag (m : Nat) : Nat := Nat.mod m 32
def zlen (m : Nat) : Nat := Nat.mod (Nat.div m 32) 4096
def zraw (m j : Nat) : Nat := Nat.mod (Nat.shiftRight m (Nat.add 32 (Nat.mul 65 j))) 36893488147419103232
def zupd (m j v : Nat) : Nat := Nat.xor m (Nat.shiftLeft (Nat.xor (zraw m j) v) (Nat.add 32 (Nat.mul 65 j)))
theorem zraw_eq (m j : Nat) : zraw m j = (m >>> (32 + 65 * j)) % 2 ^ 65 := rfl
theorem zupd_eq (m j v : Nat) : zupd m j v = m ^^^ ((zraw m j ^^^ v) <<< (32 + 65 * j)) := rfl
theorem zraw_lt (m j : Nat) : zraw m j < 2 ^ 65 := by rw [zraw_eq]; exact Nat.mod_lt _ (Nat.two_pow_pos _)
theorem zraw_bit (m j i : Nat) : (zraw m j).testBit i = (decide (i < 65) && m.testBit (32 + 65 * j + i)) := by
  rw [zraw_eq, Nat.testBit_mod_two_pow, Nat.testBit_shiftRight]
theorem zupd_bit (m j v i : Nat) : (zupd m j v).testBit i = (m.testBit i ^^ (decide (32 + 65 * j ≤ i) && (zraw m j ^^^ v).testBit (i - (32 + 65 * j)))) := by
  rw [zupd_eq, Nat.testBit_xor, Nat.testBit_shiftLeft]
theorem zhigh {v : Nat} (h : v < 2 ^ 65) {i : Nat} (hi : 65 ≤ i) : v.testBit i = false := Nat.testBit_lt_two_pow (Nat.lt_of_lt_of_le h (Nat.pow_le_pow_right (by omega) hi))
theorem zraw_s {m j v : Nat} (h : v < 2 ^ 65) : zraw (zupd m j v) j = v := by
  apply Nat.eq_of_testBit_eq
  intro i
  rw [zraw_bit, zupd_bit, Nat.testBit_xor, zraw_bit]
  rw [show 32 + 65 * j + i - (32 + 65 * j) = i by omega]
  by_cases hi : i < 65
  · have e1 : decide (i < 65) = true := decide_eq_true hi
    have e2 : decide (32 + 65 * j ≤ 32 + 65 * j + i) = true := decide_eq_true (by omega)
    rw [e1, e2]
    cases m.testBit (32 + 65 * j + i) <;> cases v.testBit i <;> rfl
  · have e1 : decide (i < 65) = false := decide_eq_false hi
    rw [e1, zhigh h (by omega)]
    rfl
theorem zxor_lt {a b : Nat} (ha : a < 2 ^ 65) (hb : b < 2 ^ 65) : a ^^^ b < 2 ^ 65 := Nat.xor_lt_two_pow ha hb
theorem zraw_n {m j v i : Nat} (h : v < 2 ^ 65) (hij : i ≠ j) : zraw (zupd m j v) i = zraw m i := by
  apply Nat.eq_of_testBit_eq
  intro b
  rw [zraw_bit, zraw_bit, zupd_bit]
  by_cases hb : b < 65
  · have e1 : decide (b < 65) = true := decide_eq_true hb
    rw [e1]
    by_cases hle : 32 + 65 * j ≤ 32 + 65 * i + b
    · have e2 : decide (32 + 65 * j ≤ 32 + 65 * i + b) = true := decide_eq_true hle
      rw [e2, zhigh (zxor_lt (zraw_lt m j) h) (by omega)]
      simp
    · have e2 : decide (32 + 65 * j ≤ 32 + 65 * i + b) = false := decide_eq_false hle
      rw [e2]
      simp
  · have e1 : decide (b < 65) = false := decide_eq_false hb
    rw [e1]
    rfl
theorem zlow {m j v i : Nat} (hi : i < 32) : (zupd m j v).testBit i = m.testBit i := by
  rw [zupd_bit, decide_eq_false (by omega)]
  simp
theorem zhead (m j v : Nat) : zupd m j v % 2 ^ 32 = m % 2 ^ 32 := by
  apply Nat.eq_of_testBit_eq
  intro i
  rw [Nat.testBit_mod_two_pow, Nat.testBit_mod_two_pow]
  by_cases hi : i < 32
  · rw [zlow hi]
  · rw [decide_eq_false hi]
    rfl
theorem ztag_u (m j v : Nat) : ztag (zupd m j v) = ztag m := by
  have h := zhead m j v
  show zupd m j v % 32 = m % 32
  omega
theorem zlen_u (m j v : Nat) : zlen (zupd m j v) = zlen m := by
  have h := zhead m j v
  show zupd m j v / 32 % 4096 = m / 32 % 4096
  omega
def zmk (tag len : Nat) : Nat := Nat.add tag (Nat.mul 32 len)
theorem zmk_tag {a b : Nat} (h : a < 32) : ztag (zmk a b) = a := by
  show (a + 32 * b) % 32 = a
  omega
theorem zmk_len {a b : Nat} (h : a < 32) (hb : b < 4096) : zlen (zmk a b) = b := by
  show (a + 32 * b) / 32 % 4096 = b
  omega
theorem zmk_raw {a b : Nat} (h : a < 32) (hb : b < 4096) (j : Nat) : zraw (zmk a b) j = 0 := by
  rw [zraw_eq]
  have h1 : zmk a b < 2 ^ (32 + 65 * j) := by
    have : zmk a b < 2 ^ 32 := by show a + 32 * b < 4294967296; omega
    exact Nat.lt_of_lt_of_le this (Nat.pow_le_pow_right (by omega) (by omega))
  rw [Nat.shiftRight_eq_div_pow, Nat.div_eq_of_lt h1]
