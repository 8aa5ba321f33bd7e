/-! Longs and ints as whole numbers. -/
theorem l_bm {v : Int} (h1 : -9223372036854775808 ≤ v) (h2 : v < 9223372036854775808) : v.bmod (2 ^ 64) = v := by
  rw [Int.bmod_eq_of_le] <;> omega
theorem i_bm {v : Int} (h1 : -2147483648 ≤ v) (h2 : v < 2147483648) : v.bmod (2 ^ 32) = v := by
  rw [Int.bmod_eq_of_le] <;> omega
theorem l_add {x y : Int64} (h1 : -9223372036854775808 ≤ x.toInt + y.toInt) (h2 : x.toInt + y.toInt < 9223372036854775808) : (x + y).toInt = x.toInt + y.toInt := by rw [Int64.toInt_add, l_bm h1 h2]
theorem l_sub {x y : Int64} (h1 : -9223372036854775808 ≤ x.toInt - y.toInt) (h2 : x.toInt - y.toInt < 9223372036854775808) : (x - y).toInt = x.toInt - y.toInt := by rw [Int64.toInt_sub, l_bm h1 h2]
theorem l_mul {x y : Int64} (h1 : -9223372036854775808 ≤ x.toInt * y.toInt) (h2 : x.toInt * y.toInt < 9223372036854775808) : (x * y).toInt = x.toInt * y.toInt := by rw [Int64.toInt_mul, l_bm h1 h2]
theorem l_neg {x : Int64} (h : -9223372036854775808 < x.toInt) : (-x).toInt = -x.toInt := by
  have := Int64.toInt_lt x
  rw [Int64.toInt_neg, l_bm (by omega) (by omega)]
theorem i_add {x y : Int32} (h1 : -2147483648 ≤ x.toInt + y.toInt) (h2 : x.toInt + y.toInt < 2147483648) : (x + y).toInt = x.toInt + y.toInt := by rw [Int32.toInt_add, i_bm h1 h2]
theorem i_sub {x y : Int32} (h1 : -2147483648 ≤ x.toInt - y.toInt) (h2 : x.toInt - y.toInt < 2147483648) : (x - y).toInt = x.toInt - y.toInt := by rw [Int32.toInt_sub, i_bm h1 h2]
theorem i_mul {x y : Int32} (h1 : -2147483648 ≤ x.toInt * y.toInt) (h2 : x.toInt * y.toInt < 2147483648) : (x * y).toInt = x.toInt * y.toInt := by rw [Int32.toInt_mul, i_bm h1 h2]
theorem i_neg {x : Int32} (h : -2147483648 < x.toInt) : (-x).toInt = -x.toInt := by
  have := Int32.toInt_lt x
  rw [Int32.toInt_neg, i_bm (by omega) (by omega)]
/-- products within a bound -/
theorem g_mulb {a b A B : Int} (ha : -A ≤ a ∧ a ≤ A) (hb : -B ≤ b ∧ b ≤ B) : -(A * B) ≤ a * b ∧ a * b ≤ A * B := by
  have hA : 0 ≤ A := by omega
  have hB : 0 ≤ B := by omega
  have h1 := Int.mul_nonneg (show 0 ≤ A - a by omega) (show 0 ≤ B - b by omega)
  have h2 := Int.mul_nonneg (show 0 ≤ A - a by omega) (show 0 ≤ B + b by omega)
  have h3 := Int.mul_nonneg (show 0 ≤ A + a by omega) (show 0 ≤ B - b by omega)
  have h4 := Int.mul_nonneg (show 0 ≤ A + a by omega) (show 0 ≤ B + b by omega)
  grind
theorem l_abs {x : Int64} (h : -9223372036854775808 < x.toInt) : (if 0 < x then x else -x) = lN x.toInt.natAbs := by
  have hb := Int64.toInt_lt x
  apply Int64.toInt_inj.mp
  rw [pk_lT (by omega)]
  by_cases h0 : 0 < x
  · rw [if_pos h0]
    have : (0 : Int64).toInt < x.toInt := Int64.lt_iff_toInt_lt.mp h0
    have h00 : (0 : Int64).toInt = 0 := by decide
    omega
  · rw [if_neg h0, l_neg h]
    have : ¬ (0 : Int64).toInt < x.toInt := fun z => h0 (Int64.lt_iff_toInt_lt.mpr z)
    have h00 : (0 : Int64).toInt = 0 := by decide
    omega
/-- Euclid's steps -/
theorem g_euclid {a b : Nat} (hb : 0 < b) (hab : b < a) : b * (a % b) * 2 ≤ a * b := by
  have h1 := Nat.mod_lt a hb
  have h2 := Nat.div_add_mod a b
  have h3 : 1 ≤ a / b := (Nat.one_le_div_iff hb).mpr (by omega)
  have h4 : b * 1 ≤ b * (a / b) := Nat.mul_le_mul_left b h3
  have h5 : 2 * (a % b) ≤ a := by omega
  have h6 := Nat.mul_le_mul_left b h5
  grind
