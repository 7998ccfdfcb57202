theorem upd_at {f : Nat → Int32} {k : Nat} {a : Int32} : upd f k a k = a := by unfold upd; rw [if_pos rfl]
