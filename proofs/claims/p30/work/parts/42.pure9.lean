/-- a small int's arithmetic -/
theorem i_mul {x y : Int32} {a b : Int} (ha : x.toInt = a) (hb : y.toInt = b) (h1 : -2147483648 ≤ a * b) (h2 : a * b ≤ 2147483647) : (x * y).toInt = a * b := by
  rw [Int32.toInt_mul, ha, hb]
  exact Int.bmod_eq_of_le (by omega) (by omega)
theorem i_add {x y : Int32} {a b : Int} (ha : x.toInt = a) (hb : y.toInt = b) (h1 : -2147483648 ≤ a + b) (h2 : a + b ≤ 2147483647) : (x + y).toInt = a + b := by
  rw [Int32.toInt_add, ha, hb]
  exact Int.bmod_eq_of_le (by omega) (by omega)
theorem i_sub {x y : Int32} {a b : Int} (ha : x.toInt = a) (hb : y.toInt = b) (h1 : -2147483648 ≤ a - b) (h2 : a - b ≤ 2147483647) : (x - y).toInt = a - b := by
  rw [Int32.toInt_sub, ha, hb]
  exact Int.bmod_eq_of_le (by omega) (by omega)
theorem i_div {x y : Int32} {a b : Int} (ha : x.toInt = a) (hb : y.toInt = b) (hp : 0 < b) : (x / y).toInt = a.tdiv b := by
  rw [Int32.toInt_div, ha, hb]
  have l1 := Int32.le_toInt x
  have l2 := Int32.toInt_lt x
  rw [ha] at l1 l2
  have h3 : (a.tdiv b).natAbs ≤ a.natAbs := by rw [Int.natAbs_tdiv]; exact Nat.div_le_self _ _
  by_cases h0 : 0 ≤ a
  · have h4 : 0 ≤ a.tdiv b := Int.tdiv_nonneg h0 (by omega)
    exact Int.bmod_eq_of_le (by omega) (by omega)
  · have h4 : a.tdiv b ≤ 0 := by
      have q := Int.tdiv_nonneg (a := -a) (b := b) (by omega) (by omega)
      rw [Int.neg_tdiv] at q
      omega
    exact Int.bmod_eq_of_le (by omega) (by omega)

