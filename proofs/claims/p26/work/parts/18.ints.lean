/-! ===== 32-bit ints as integers ===== -/
theorem vin {i : Int32} {n : Nat} (h0 : 0 ≤ i.toInt) (h1 : i.toInt < n) : vp_in i n := by
  intro h
  rcases h with h | h
  · have := Int32.lt_iff_toInt_lt.mp h
    rw [show (0 : Int32).toInt = 0 from rfl] at this
    omega
  · have : i.toNatClampNeg = i.toInt.toNat := rfl
    omega
theorem tcn (i : Int32) : i.toNatClampNeg = i.toInt.toNat := rfl
theorem i_lo (i : Int32) : -2147483648 ≤ i.toInt := Int32.le_toInt i
theorem i_hi (i : Int32) : i.toInt < 2147483648 := Int32.toInt_lt i
theorem i_le {x y : Int32} : x ≤ y ↔ x.toInt ≤ y.toInt := Int32.le_iff_toInt_le
theorem i_lt {x y : Int32} : x < y ↔ x.toInt < y.toInt := Int32.lt_iff_toInt_lt
theorem i_eq {x y : Int32} : x = y ↔ x.toInt = y.toInt := Int32.toInt_inj.symm
theorem i_add {x y : Int32} (h1 : -2147483648 ≤ x.toInt + y.toInt) (h2 : x.toInt + y.toInt < 2147483648) : (x + y).toInt = x.toInt + y.toInt := by
  rw [Int32.toInt_add, Int.bmod_def]
  split <;> omega
theorem i_sub {x y : Int32} (h1 : -2147483648 ≤ x.toInt - y.toInt) (h2 : x.toInt - y.toInt < 2147483648) : (x - y).toInt = x.toInt - y.toInt := by
  rw [Int32.toInt_sub, Int.bmod_def]
  split <;> omega
theorem i_mul {x y : Int32} (h1 : -2147483648 ≤ x.toInt * y.toInt) (h2 : x.toInt * y.toInt < 2147483648) : (x * y).toInt = x.toInt * y.toInt := by
  rw [Int32.toInt_mul, Int.bmod_def]
  split <;> omega
/-- one more, one less -/
theorem i_s {x : Int32} (h : x.toInt < 2147483647) : (x + 1).toInt = x.toInt + 1 := i_add (y := 1) (by have := i_lo x; rw [show (1 : Int32).toInt = 1 from rfl]; omega) (by rw [show (1 : Int32).toInt = 1 from rfl]; omega)
theorem i_p {x : Int32} (h : -2147483648 < x.toInt) : (x + (-1)).toInt = x.toInt - 1 := by
  rw [i_add (y := -1) (by rw [show (-1 : Int32).toInt = -1 from rfl]; omega) (by have := i_hi x; rw [show (-1 : Int32).toInt = -1 from rfl]; omega)]
  rfl
theorem i_p' {x : Int32} (h : -2147483648 < x.toInt) : (x - 1).toInt = x.toInt - 1 := i_sub (y := 1) (by rw [show (1 : Int32).toInt = 1 from rfl]; omega) (by have := i_hi x; rw [show (1 : Int32).toInt = 1 from rfl]; omega)
