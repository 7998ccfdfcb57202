theorem tdiv_rng (a b : Int) (hb : 0 < b) : ∃ r, a = b * a.tdiv b + r ∧ (0 ≤ a → 0 ≤ r) ∧ (a ≤ 0 → r ≤ 0) ∧ -b < r ∧ r < b := by
  refine ⟨a.tmod b, (Int.mul_tdiv_add_tmod a b).symm, fun h => Int.tmod_nonneg b h, fun h => ?_, ?_, Int.tmod_lt_of_pos a hb⟩
  · have q := Int.tmod_nonneg b (a := -a) (by omega)
    rw [Int.neg_tmod] at q
    omega
  · have q := Int.tmod_lt_of_pos (-a) hb
    rw [Int.neg_tmod] at q
    omega
theorem jfd_eq {fl : Int32} {a : Int} (ha : fl.toInt = a) (h1 : -1000000 ≤ a) (h2 : a ≤ 1000000) : jfd (fl + 500) 1000 = mWarm fl := by
  have e5 : (500 : Int32).toInt = 500 := by decide
  have e1 : (1000 : Int32).toInt = 1000 := by decide
  have ex : (fl + 500).toInt = a + 500 := i_add ha e5 (by omega) (by omega)
  unfold mWarm jfd
  generalize fl + 500 = x at ex ⊢
  have hx := xor_sign x
  have eq0 : (x / 1000).toInt = (a + 500).tdiv 1000 := i_div ex e1 (by decide)
  obtain ⟨r, r1, r2, r3, r4, r5⟩ := tdiv_rng (a + 500) 1000 (by decide)
  have em : (x / 1000 * 1000).toInt = (a + 500).tdiv 1000 * 1000 := i_mul eq0 e1 (by omega) (by omega)
  have z0 : (0 : Int32).toInt = 0 := by decide
  by_cases h0 : 0 ≤ x
  · have h0' := h0
    rw [Int32.le_iff_toInt_le, z0, ex] at h0'
    rw [if_pos (hx.mpr h0), if_pos (by rw [Int32.le_iff_toInt_le, em, ex]; have := r2 h0'; omega)]
  · have h0' := h0
    rw [Int32.le_iff_toInt_le, z0, ex] at h0'
    rw [if_neg (fun q => h0 (hx.mp q))]
    by_cases h3 : x / 1000 * 1000 = x
    · rw [if_pos h3, if_pos (by rw [h3]; exact Int32.le_refl _)]
    · rw [if_neg h3, if_neg (fun q => h3 (Int32.toInt_inj.mp (by
        rw [Int32.le_iff_toInt_le, em, ex] at q
        rw [em, ex]
        have := r3 (by omega)
        omega)))]
/-- warm's answer is small -/
theorem mWarm_rng {fl : Int32} {a : Int} (ha : fl.toInt = a) (h1 : -1000000 ≤ a) (h2 : a ≤ 1000000) : -1101 ≤ (mWarm fl).toInt ∧ (mWarm fl).toInt ≤ 1101 := by
  have e5 : (500 : Int32).toInt = 500 := by decide
  have e1 : (1000 : Int32).toInt = 1000 := by decide
  have eo : (1 : Int32).toInt = 1 := by decide
  have ex : (fl + 500).toInt = a + 500 := i_add ha e5 (by omega) (by omega)
  unfold mWarm
  generalize fl + 500 = x at ex ⊢
  have eq0 : (x / 1000).toInt = (a + 500).tdiv 1000 := i_div ex e1 (by decide)
  obtain ⟨r, r1, r2, r3, r4, r5⟩ := tdiv_rng (a + 500) 1000 (by decide)
  have es : (x / 1000 - 1).toInt = (a + 500).tdiv 1000 - 1 := i_sub eq0 eo (by omega) (by omega)
  by_cases h3 : x / 1000 * 1000 ≤ x
  · rw [if_pos h3, eq0]; omega
  · rw [if_neg h3, es]; omega
