theorem in01 : vp_in (0 : Int32) 1 := by
  show ¬ ((0 : Int32) < 0 ∨ (1 : Nat) ≤ (0 : Int32).toNatClampNeg)
  decide

