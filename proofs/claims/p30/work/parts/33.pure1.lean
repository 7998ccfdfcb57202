theorem hCnt_eq {wd hs : Nat → Int32} {b : Nat} {w : Int32} : ∀ n, (∀ k, k < n → wd k = hs (b + k)) → mHou hs b w n = hCnt wd w n := by
  intro n
  induction n with
  | zero => exact fun _ => rfl
  | succ n ih =>
    intro h
    have ih := ih (fun k hk => h k (by omega))
    show mHou hs b w n + (if hs (b + n) = w then 1 else 0) = (if wd n = w then hCnt wd w n + 1 else hCnt wd w n)
    rw [ih, h n (by omega)]
    by_cases h1 : hs (b + n) = w
    · rw [if_pos h1, if_pos h1]
    · rw [if_neg h1, if_neg h1, Int32.add_zero]
