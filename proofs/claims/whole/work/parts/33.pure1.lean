/-! the class's formulas and the reference's are one -/
theorem jabs_neg (d : Int32) : jabs (-d) = jabs d := by
  have h := Int32.toInt_neg d
  have l1 := Int32.le_toInt d
  have l2 := Int32.toInt_lt d
  have z0 : (0 : Int32).toInt = 0 := by decide
  have h2 := Int32.toInt_neg (-d)
  rw [Int.bmod_def] at h h2
  unfold jabs
  rw [Int32.zero_sub, Int32.zero_sub]
  by_cases h3 : (0 : Int32) ≤ -d
  · rw [if_pos h3]
    by_cases h4 : (0 : Int32) ≤ d
    · rw [if_pos h4]
      apply Int32.toInt_inj.mp
      rw [Int32.le_iff_toInt_le, z0] at h3 h4
      split at h <;> omega
    · rw [if_neg h4]
  · rw [if_neg h3]
    by_cases h4 : (0 : Int32) ≤ d
    · rw [if_pos h4, Int32.neg_neg]
    · rw [if_neg h4, Int32.neg_neg]
      apply Int32.toInt_inj.mp
      rw [Int32.le_iff_toInt_le, z0] at h3 h4
      split at h <;> omega
theorem jabs_sub (x y : Int32) : jabs (x - y) = jabs (y - x) := by
  rw [← jabs_neg (y - x), Int32.neg_sub]
theorem fRep_sym (a b : Int32) : fRep a b = fRep b a := by
  unfold fRep fFar
  rw [jabs_sub (jrem a 8), jabs_sub (a / 8)]
theorem fSum_cut {cel : Nat → Int32} {w x : Int32} {n : Nat} (h : ∀ k, n ≤ k → k < 20 → cel k = -1) : ∀ m, n ≤ m → m ≤ 20 → fSum cel w x m = fSum cel w x n := by
  intro m
  induction m with
  | zero => intro h1 _; rw [show n = 0 by omega]
  | succ m ih =>
    intro h1 h2
    rcases Nat.lt_or_ge m n with q | q
    · rw [show n = m + 1 by omega]
    · show (if nI m = w then fSum cel w x m else if cel m = -1 then fSum cel w x m else fSum cel w x m + fRep x (cel m)) = _
      rw [if_pos (h m q (by omega)), ite_self]
      exact ih q (by omega)
theorem mSum_eq {cx cm : Nat → Int32} {w x s0 : Int32} : ∀ n, (∀ k, k < n → cx k = cm k) → mSum cm w x s0 n = s0 + fSum cx w x n := by
  intro n
  induction n with
  | zero => exact fun _ => (Int32.add_zero _).symm
  | succ n ih =>
    intro h
    have ih := ih (fun k hk => h k (by omega))
    show (if nI n = w then mSum cm w x s0 n else if cm n = -1 then mSum cm w x s0 n else mSum cm w x s0 n + fRep (cm n) x) = s0 + (if nI n = w then fSum cx w x n else if cx n = -1 then fSum cx w x n else fSum cx w x n + fRep x (cx n))
    rw [ih, h n (by omega)]
    by_cases h1 : nI n = w
    · rw [if_pos h1, if_pos h1]
    · rw [if_neg h1, if_neg h1]
      by_cases h2 : cm n = -1
      · rw [if_pos h2, if_pos h2]
      · rw [if_neg h2, if_neg h2, Int32.add_assoc, fRep_sym]
theorem fDep_in {dep : Nat → Int32} {x : Int32} (hX : ¬ uK x 48) : fDep dep x = dep x.toNatClampNeg := by
  unfold fDep
  rw [if_neg (fun q => hX (Or.inl q)), if_neg (fun q => hX (Or.inr q))]
theorem fEn_eq {cx cm dep : Nat → Int32} {dr w x : Int32} {n : Nat} (hn : n ≤ 20) (h1 : ∀ k, k < n → cx k = cm k) (h2 : ∀ k, n ≤ k → k < 20 → cx k = -1) (hX : ¬ uK x 48) : fEn cx dep dr w x = mEn cm dep dr w n x := by
  unfold fEn mEn
  rw [mSum_eq n h1, fSum_cut h2 20 hn (Nat.le_refl _), fDep_in hX, Int32.sub_eq_add_neg, Int32.sub_eq_add_neg, Int32.sub_eq_add_neg, Int32.add_comm _ (fSum cx w x n), Int32.add_assoc]
theorem mBes_f0 : ∀ k, k < 48 → ∀ w, w < 4 → fBes (nI k) (nI w) = mBes (nI k) (nI w) := by decide +kernel
theorem fBes_3 {x w : Int32} (h0 : ¬ w = 0) (h1 : ¬ w = 1) (h2 : ¬ w = 2) : fBes x w = fBes x (nI 3) := by
  unfold fBes
  rw [if_neg h0, if_neg h1, if_neg h2]
  rfl
theorem fBes_eq {x w : Int32} (hX : ¬ uK x 48) : fBes x w = mBes x w := by
  obtain ⟨e1, e2⟩ := uK_ix (n := 48) hX
  rw [e1]
  by_cases h0 : w = 0
  · rw [h0]; exact mBes_f0 _ e2 0 (by decide)
  · by_cases h1 : w = 1
    · rw [h1]; exact mBes_f0 _ e2 1 (by decide)
    · by_cases h2 : w = 2
      · rw [h2]; exact mBes_f0 _ e2 2 (by decide)
      · rw [mBes_3 h0 h1 h2, fBes_3 h0 h1 h2]; exact mBes_f0 _ e2 3 (by decide)
theorem hCnt_eq {wd hs : Nat → Int32} {b : Nat} {w : Int32} : ∀ n, (∀ k, k < n → wd k = hs (b + k)) → mHou hs b w n = hCnt wd w n := by
  intro n
  induction n with
  | zero => exact fun _ => rfl
  | succ n ih =>
    intro h
    have ih := ih (fun k hk => h k (by omega))
    show mHou hs b w n + (if hs (b + n) = w then 1 else 0) = (if wd n = w then hCnt wd w n + 1 else hCnt wd w n)
    rw [ih, h n (by omega)]
    by_cases h1 : hs (b + n) = w
    · rw [if_pos h1, if_pos h1]
    · rw [if_neg h1, if_neg h1, Int32.add_zero]
theorem jVer_eq {op fr to pn : Int32} {wd : Nat → Int32} : jVer op fr to pn wd = mVer op fr to pn (hCnt wd 1 7) (hCnt wd 2 7) := by
  unfold jVer mVer
  rfl
