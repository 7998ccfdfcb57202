theorem xor_sign (x : Int32) : 0 ≤ x ^^^ 1000 ↔ 0 ≤ x := by
  have e : (x ^^^ 1000).toBitVec.msb = x.toBitVec.msb := by
    rw [Int32.toBitVec_xor, BitVec.msb_xor, show (1000 : Int32).toBitVec.msb = false by decide, Bool.xor_false]
  rw [BitVec.msb_eq_toInt, BitVec.msb_eq_toInt] at e
  have z0 : (0 : Int32).toInt = 0 := by decide
  rw [Int32.le_iff_toInt_le, Int32.le_iff_toInt_le, z0]
  have e2 : ((x ^^^ 1000).toBitVec.toInt < 0) = (x.toBitVec.toInt < 0) := by simpa using e
  have a1 : (x ^^^ 1000).toInt = (x ^^^ 1000).toBitVec.toInt := rfl
  have a2 : x.toInt = x.toBitVec.toInt := rfl
  rw [a1, a2]
  constructor
  · intro h
    refine Int.not_lt.mp (fun q => ?_)
    rw [← e2] at q
    omega
  · intro h
    refine Int.not_lt.mp (fun q => ?_)
    rw [e2] at q
    omega
/-- a small int's arithmetic -/
theorem i_mul {x y : Int32} {a b : Int} (ha : x.toInt = a) (hb : y.toInt = b) (h1 : -2147483648 ≤ a * b) (h2 : a * b ≤ 2147483647) : (x * y).toInt = a * b := by
  rw [Int32.toInt_mul, ha, hb]
  exact Int.bmod_eq_of_le (by omega) (by omega)
theorem i_add {x y : Int32} {a b : Int} (ha : x.toInt = a) (hb : y.toInt = b) (h1 : -2147483648 ≤ a + b) (h2 : a + b ≤ 2147483647) : (x + y).toInt = a + b := by
  rw [Int32.toInt_add, ha, hb]
  exact Int.bmod_eq_of_le (by omega) (by omega)
theorem i_sub {x y : Int32} {a b : Int} (ha : x.toInt = a) (hb : y.toInt = b) (h1 : -2147483648 ≤ a - b) (h2 : a - b ≤ 2147483647) : (x - y).toInt = a - b := by
  rw [Int32.toInt_sub, ha, hb]
  exact Int.bmod_eq_of_le (by omega) (by omega)
theorem i_div {x y : Int32} {a b : Int} (ha : x.toInt = a) (hb : y.toInt = b) (hp : 0 < b) : (x / y).toInt = a.tdiv b := by
  rw [Int32.toInt_div, ha, hb]
  have l1 := Int32.le_toInt x
  have l2 := Int32.toInt_lt x
  rw [ha] at l1 l2
  have h3 : (a.tdiv b).natAbs ≤ a.natAbs := by rw [Int.natAbs_tdiv]; exact Nat.div_le_self _ _
  by_cases h0 : 0 ≤ a
  · have h4 : 0 ≤ a.tdiv b := Int.tdiv_nonneg h0 (by omega)
    exact Int.bmod_eq_of_le (by omega) (by omega)
  · have h4 : a.tdiv b ≤ 0 := by
      have q := Int.tdiv_nonneg (a := -a) (b := b) (by omega) (by omega)
      rw [Int.neg_tdiv] at q
      omega
    exact Int.bmod_eq_of_le (by omega) (by omega)
