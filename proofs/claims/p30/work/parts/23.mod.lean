def mHou (hs : Nat → Int32) (b : Nat) (w : Int32) : Nat → Int32
  | 0 => 0
  | k + 1 => mHou hs b w k + (if hs (b + k) = w then 1 else 0)
