section Opens
variable {F : Nat → Nat → Int32} {tm cu vo : Nat → Int32} {x no ct : Int32} {fr n np : Nat}
theorem mPr_low (ht : ∀ k, k < np → tm k = F 28 k) (hc : ∀ k, k < np → cu k = F 29 k) (hct : ct = F 31 x.toNatClampNeg) {a b : Nat} (ha : a < np) (hb : b < np) (hnp : np ≤ 60) (hlt : tm a < ct) : mPr F x (nI a) (nI b) = pMir (tm a) (cu a) (tm b) (cu b) := by
  have hlt2 := hlt
  rw [ht a ha, hct] at hlt2
  unfold mPr pMir
  rw [nI_clamp (show a < 2 ^ 31 by omega), nI_clamp (show b < 2 ^ 31 by omega), ht a ha, ht b hb, hc a ha, hc b hb, if_neg (Int32.not_le.mpr hlt2)]
  by_cases h1 : F 28 a = F 28 b
  · rw [if_pos h1, if_pos h1.symm]
  · have h2 : ¬ F 28 b = F 28 a := fun q => h1 q.symm
    rw [if_neg h1, if_neg h2, ite_self, ite_self]
theorem mPr_high (ht : ∀ k, k < np → tm k = F 28 k) (hct : ct = F 31 x.toNatClampNeg) {a b : Nat} (ha : a < np) (hnp : np ≤ 60) (hge : ¬ tm a < ct) : mPr F x (nI a) (nI b) = 0 := by
  have h2 := Int32.not_lt.mp hge
  rw [ht a ha, hct] at h2
  unfold mPr
  rw [nI_clamp (show a < 2 ^ 31 by omega), if_pos h2, ite_self, ite_self, ite_self]
theorem jkIn_eq (ht : ∀ k, k < np → tm k = F 28 k) (hc : ∀ k, k < np → cu k = F 29 k) (hv : ∀ k, k < np → vo k = F 30 k) (hct : ct = F 31 x.toNatClampNeg) (hnp : np ≤ 60) {a : Nat} (ha : a < np) (hlt : tm a < ct) {p : Int32} : ∀ k, fr + k ≤ np → jIn tm cu vo no p a fr k = kIn F x no p a fr k := by
  intro k
  induction k with
  | zero => exact fun _ => rfl
  | succ k ih =>
    intro hk
    have ih := ih (by omega)
    unfold jIn kIn
    rw [ih, mPr_low ht hc hct ha (show fr + k < np by omega) hnp hlt, hv a ha, hv (fr + k) (by omega)]
theorem kIn_high (ht : ∀ k, k < np → tm k = F 28 k) (hct : ct = F 31 x.toNatClampNeg) (hnp : np ≤ 60) {a : Nat} (ha : a < np) (hge : ¬ tm a < ct) {p : Int32} : ∀ k, kIn F x no p a fr k = (p, false) := by
  intro k
  induction k with
  | zero => rfl
  | succ k ih => rw [kIn_no (by rw [ih]) (mPr_high ht hct ha hnp hge)]; exact ih
theorem jkOut_eq (ht : ∀ k, k < np → tm k = F 28 k) (hc : ∀ k, k < np → cu k = F 29 k) (hv : ∀ k, k < np → vo k = F 30 k) (hct : ct = F 31 x.toNatClampNeg) (hnp : np ≤ 60) (hn : fr + n ≤ np) : ∀ k, k ≤ n → jOut tm cu vo no ct fr n k = kOut F x no fr n k := by
  intro k
  induction k with
  | zero => exact fun _ => rfl
  | succ k ih =>
    intro hk
    have ih := ih (by omega)
    unfold jOut kOut
    rw [ih]
    generalize kOut F x no fr n k = s
    by_cases h1 : s.2 = true
    · rw [if_pos h1, if_pos h1]
    · rw [if_neg h1, if_neg h1]
      by_cases h2 : tm (fr + k) < ct
      · rw [if_pos h2]
        exact jkIn_eq ht hc hv hct hnp (by omega) h2 n hn
      · rw [if_neg h2, kIn_high ht hct hnp (show fr + k < np by omega) h2 n]
        have e : s.2 = false := by
          cases q : s.2 with
          | false => rfl
          | true => exact absurd q h1
        rw [← e]
theorem jkOpen_eq (ht : ∀ k, k < np → tm k = F 28 k) (hc : ∀ k, k < np → cu k = F 29 k) (hv : ∀ k, k < np → vo k = F 30 k) (hct : ct = F 31 x.toNatClampNeg) (hnp : np ≤ 60) (hn : fr + n ≤ np) : jOpen tm cu vo no ct fr n = kOpen F x no fr n := by
  unfold jOpen kOpen
  rw [jkOut_eq ht hc hv hct hnp hn n (Nat.le_refl _)]
end Opens
