theorem jabs_int {x : Int32} {a : Int} (h : x.toInt = a) (h1 : -2147483648 < a) : (jabs x).toInt = a.natAbs := by
  have z0 : (0 : Int32).toInt = 0 := by decide
  have l2 := Int32.toInt_lt x
  rw [h] at l2
  unfold jabs
  by_cases q : 0 ≤ x
  · rw [if_pos q, h]
    rw [Int32.le_iff_toInt_le, z0, h] at q
    omega
  · rw [if_neg q, i_sub z0 h (by omega) (by omega)]
    rw [Int32.le_iff_toInt_le, z0, h] at q
    omega
theorem rIt_shift (ind fl n : Int32) : ∀ j, rIt ind fl n (j + 1) = rIt ind fl (rBy ind fl n) j := by
  intro j
  induction j with
  | zero => rfl
  | succ j ih =>
    show rBy ind fl (rIt ind fl n (j + 1)) = rBy ind fl (rIt ind fl (rBy ind fl n) j)
    rw [ih]
section Flux
variable {ind cr fl : Int32} {i c q : Int}
theorem rCur_int (hi : ind.toInt = i) (i1 : 1 ≤ i) (hc : fl.toInt = c) (c1 : -1000000 ≤ c) (c2 : c ≤ 1000000) {n : Int32} {m : Int} (hm : n.toInt = m) (m1 : -100000 ≤ m) (m2 : m ≤ 100000) : (rCur ind fl n).toInt = (1000 * m - c).tdiv i := by
  have e1 : (1000 : Int32).toInt = 1000 := by decide
  have h0 : ¬ ind = 0 := fun z => by
    rw [z, show (0 : Int32).toInt = 0 from by decide] at hi
    omega
  unfold rCur
  rw [if_neg h0]
  exact i_div (i_sub (i_mul e1 hm (by omega) (by omega)) hc (by omega) (by omega)) hi (by omega)
theorem rBy_int {n : Int32} {m : Int} (hm : n.toInt = m) (m1 : -100000 ≤ m) (m2 : m ≤ 100000) (hq : (rCur ind fl n).toInt = q) : (q ≤ 0 → rBy ind fl n = n + 1 ∧ (rBy ind fl n).toInt = m + 1) ∧ (0 < q → rBy ind fl n = n - 1 ∧ (rBy ind fl n).toInt = m - 1) := by
  have eo : (1 : Int32).toInt = 1 := by decide
  have z0 : (0 : Int32).toInt = 0 := by decide
  constructor
  · intro h
    have h2 : rCur ind fl n ≤ 0 := by rw [Int32.le_iff_toInt_le, z0, hq]; exact h
    have e : rBy ind fl n = n + 1 := by unfold rBy; rw [if_pos h2]
    exact ⟨e, by rw [e]; exact i_add hm eo (by omega) (by omega)⟩
  · intro h
    have h2 : ¬ rCur ind fl n ≤ 0 := by rw [Int32.le_iff_toInt_le, z0, hq]; omega
    have e : rBy ind fl n = n - 1 := by unfold rBy; rw [if_neg h2]
    exact ⟨e, by rw [e]; exact i_sub hm eo (by omega) (by omega)⟩
theorem tdiv_abs {a i : Int} (hi : 1 ≤ i) : (a.tdiv i).natAbs ≤ a.natAbs := by rw [Int.natAbs_tdiv]; exact Nat.div_le_self _ _
theorem tdiv_pos' {a i : Int} (hi : 1 ≤ i) (h : 0 < a.tdiv i) : 0 < a := by
  refine Int.not_le.mp (fun q => ?_)
  have k := Int.tdiv_nonneg (a := -a) (b := i) (by omega) (by omega)
  rw [Int.neg_tdiv] at k
  omega
theorem tdiv_neg' {a i : Int} (hi : 1 ≤ i) (h : a.tdiv i < 0) : a < 0 := by
  refine Int.not_le.mp (fun q => ?_)
  have k := Int.tdiv_nonneg (a := a) (b := i) q (by omega)
  omega
theorem tdiv_np {a i : Int} (hi : 1 ≤ i) (h : a ≤ 0) : a.tdiv i ≤ 0 := by
  have k := Int.tdiv_nonneg (a := -a) (b := i) (by omega) (by omega)
  rw [Int.neg_tdiv] at k
  omega
/-- slips end -/
theorem slips_end (hi : ind.toInt = i) (i1 : 1 ≤ i) (hc : fl.toInt = c) (c1 : -1000000 ≤ c) (c2 : c ≤ 1000000) {r : Int} (hr : cr.toInt = r) (r0 : 0 ≤ r) : ∀ (t : Nat) (n : Int32) (m : Int), n.toInt = m → (1000 * m - c).natAbs ≤ 1000 * t + 999 → t ≤ 5000 → ∃ j, j ≤ t + 2 ∧ rStop ind cr fl (rIt ind fl n j) := by
  intro t
  induction t with
  | zero =>
    intro n m hm hD ht
    by_cases hs : rStop ind cr fl n
    · exact ⟨0, by omega, hs⟩
    · refine ⟨1, by omega, ?_⟩
      have hq := rCur_int (ind := ind) (fl := fl) hi i1 hc c1 c2 hm (by omega) (by omega)
      have hb := rBy_int hm (by omega) (by omega) hq
      have l1 := tdiv_abs (a := 1000 * m - c) i1
      show rStop ind cr fl (rBy ind fl n)
      have hs1 : ¬ jabs (rCur ind fl n) ≤ cr := fun z => hs (Or.inl z)
      have hs2 : jabs (rCur ind fl (rBy ind fl n)) < jabs (rCur ind fl n) := Decidable.byContradiction (fun z => hs (Or.inr z))
      rcases Int.lt_or_le 0 ((1000 * m - c).tdiv i) with p | p
      · obtain ⟨b1, b2⟩ := hb.2 p
        have dp := tdiv_pos' i1 p
        have hq2 := rCur_int (ind := ind) (fl := fl) hi i1 hc c1 c2 b2 (by omega) (by omega)
        have np := tdiv_np (a := 1000 * (m - 1) - c) i1 (by omega)
        have hb2 := (rBy_int b2 (by omega) (by omega) hq2).1 np
        refine Or.inr (fun z => ?_)
        rw [hb2.1, b1, show n - 1 + 1 = n from Int32.sub_add_cancel _ _] at z
        rw [b1] at hs2
        exact Int32.lt_irrefl (Int32.lt_trans z hs2)
      · obtain ⟨b1, b2⟩ := hb.1 p
        have hq2 := rCur_int (ind := ind) (fl := fl) hi i1 hc c1 c2 b2 (by omega) (by omega)
        rcases Int.lt_or_le 0 ((1000 * (m + 1) - c).tdiv i) with p2 | p2
        · have hb2 := (rBy_int b2 (by omega) (by omega) hq2).2 p2
          refine Or.inr (fun z => ?_)
          rw [hb2.1, b1, show n + 1 - 1 = n from Int32.add_sub_cancel _ _] at z
          rw [b1] at hs2
          exact Int32.lt_irrefl (Int32.lt_trans z hs2)
        · have np : 0 ≤ (1000 * (m + 1) - c).tdiv i := Int.tdiv_nonneg (by omega) (by omega)
          have e0 : (1000 * (m + 1) - c).tdiv i = 0 := by omega
          refine Or.inl ?_
          rw [Int32.le_iff_toInt_le, jabs_int hq2 (by omega), hr, e0]
          exact r0
  | succ t ih =>
    intro n m hm hD ht
    by_cases hs : rStop ind cr fl n
    · exact ⟨0, by omega, hs⟩
    · by_cases hsm : (1000 * m - c).natAbs ≤ 1000 * t + 999
      · obtain ⟨j, j1, j2⟩ := ih n m hm hsm (by omega)
        exact ⟨j, by omega, j2⟩
      · have hq := rCur_int (ind := ind) (fl := fl) hi i1 hc c1 c2 hm (by omega) (by omega)
        have hb := rBy_int hm (by omega) (by omega) hq
        have hs1 : ¬ jabs (rCur ind fl n) ≤ cr := fun z => hs (Or.inl z)
        rw [Int32.le_iff_toInt_le, jabs_int hq (by have := tdiv_abs (a := 1000 * m - c) i1; omega), hr] at hs1
        have nx : (1000 * ((rBy ind fl n).toInt) - c).natAbs ≤ 1000 * t + 999 := by
          rcases Int.lt_or_le 0 ((1000 * m - c).tdiv i) with p | p
          · obtain ⟨b1, b2⟩ := hb.2 p
            have dp := tdiv_pos' i1 p
            rw [b2]; omega
          · obtain ⟨b1, b2⟩ := hb.1 p
            have dn := tdiv_neg' (a := 1000 * m - c) i1 (by omega)
            rw [b2]; omega
        obtain ⟨j, j1, j2⟩ := ih _ _ rfl nx (by omega)
        exact ⟨j + 1, by omega, by rw [rIt_shift]; exact j2⟩
end Flux
