def wLaw (cI cJ cB : ClassId) (tE v am oj od : Nat) (ad adm : Nat → Nat) : va_W := ([(v, .inr (8, [.ref (ad 1), .ref (ad 2), .ref (ad 5), .ref (ad 6), .ref (ad 9), .ref (ad 10), .ref (ad 11)])), ((ad 1), .inr (0, [.int 0, .ref tE, .int 0])), ((ad 2), .inr (4, [.ref (ad 3), .ref (ad 4), .int 0, .int 0, .int 0])), ((ad 3), .inl (cI, 48, .inl (fun _ => 0))), ((ad 4), .inl (cI, 20, .inl (fill (-1 : Int32) 20))), ((ad 5), .inr (0, [.int 0, .ref tE, .int 0])), ((ad 6), .inr (2, [.ref (ad 7), .ref (ad 8), .int 0, .int 0, .int 0, .long 0, .long 0])), ((ad 7), .inl (cI, 12, .inl (fill (4 : Int32) 12))), ((ad 8), .inl (cI, 12, .inl (fun _ => 0))), ((ad 9), .inr (3, [.int 300, .int 700, .int 0])), ((ad 10), .inr (0, [.int 0, .ref tE, .int 0])), ((ad 11), .inr (0, [.int 0, .ref tE, .int 0])), (am, .inr (9, mF adm z0 0 0)), (adm 13, .inl (cI, 8, .inl (fun _ => 0))), (adm 14, .inl (cI, 8, .inl (fun _ => 0))), (adm 15, .inl (cI, 8, .inl (fun _ => 0))), (adm 16, .inl (cI, 8, .inl (fun _ => 0))), (adm 17, .inl (cI, 8, .inl (fun _ => 0))), (adm 18, .inl (cI, 48, .inl (fun _ => 0))), (adm 19, .inl (cI, 48, .inl (fill (-1 : Int32) 48))), (adm 20, .inl (cI, 20, .inl (fun _ => 0))), (adm 21, .inl (cI, 6, .inl (fun _ => 0))), (adm 22, .inl (cI, 6, .inl (fun _ => 0))), (adm 23, .inl (cI, 6, .inl (fun _ => 0))), (adm 24, .inl (cI, 6, .inl (fun _ => 0))), (adm 25, .inl (cI, 6, .inl (fun _ => 0))), (adm 26, .inl (cI, 12, .inl (fill (4 : Int32) 12))), (adm 27, .inl (cI, 12, .inl (fun _ => 0))), (adm 28, .inl (cI, 60, .inl (fun _ => 0))), (adm 29, .inl (cI, 60, .inl (fun _ => 0))), (adm 30, .inl (cI, 60, .inl (fun _ => 0))), (adm 31, .inl (cI, 8, .inl (fun _ => 0))), (adm 32, .inl (cI, 8, .inl (fun _ => 0))), (adm 33, .inl (cI, 8, .inl (fun _ => 0))), (adm 34, .inl (cI, 8, .inl (fun _ => 0))), (adm 35, .inl (cI, 56, .inl (fun _ => 0))), (oj, .inl (cJ, 1, .inr (.inl (fun _ => 0)))), (od, .inl (cB, 1, .inr (.inr (.inr (.inl (fun _ => 0))))))] : va_W)
def F0s : Nat → Nat → Int32 := fun k => if k = 19 then fill (-1 : Int32) 48 else if k = 26 then fill (4 : Int32) 12 else fun _ => 0
def own0 (k : Nat) : Nat := if k = 0 then 8 else if k = 1 then 1 else if k < 5 then 2 else if k = 5 then 3 else if k < 9 then 4 else if k = 9 then 5 else if k = 10 then 6 else if k = 11 then 7 else 0
set_option maxHeartbeats 4000000 in
set_option maxRecDepth 100000 in
/-- at the start all of it holds -/
theorem INV_start (cI cO cJ cB : ClassId) (tE v am oj od : Nat) (ad adm : Nat → Nat) : INV cI cO cJ cB tE v am oj od (wLaw cI cJ cB tE v am oj od ad adm) := by
  unfold wLaw
  have hfill : ∀ (x : Int32) (n k : Nat), k < n → fill x n k = x := fun x n k h => if_pos h
  refine ⟨own0, adm, z0, F0s, 0, 0, (ad 1, ad 2, ad 5, ad 6, ad 9, ad 10, ad 11), 0, ⟨rfl, fun k h1 h2 => ?_, ⟨_, rfl⟩, ⟨_, rfl⟩⟩, rfl, rfl, fun k h1 h2 => ?_, fun j hj => ?_⟩
  · obtain ⟨j, rfl⟩ : ∃ j, k = 13 + j := ⟨k - 13, by omega⟩
    match j, h2 with
    | 0, _ => rfl
    | 1, _ => rfl
    | 2, _ => rfl
    | 3, _ => rfl
    | 4, _ => rfl
    | 5, _ => rfl
    | 6, _ => rfl
    | 7, _ => rfl
    | 8, _ => rfl
    | 9, _ => rfl
    | 10, _ => rfl
    | 11, _ => rfl
    | 12, _ => rfl
    | 13, _ => rfl
    | 14, _ => rfl
    | 15, _ => rfl
    | 16, _ => rfl
    | 17, _ => rfl
    | 18, _ => rfl
    | 19, _ => rfl
    | 20, _ => rfl
    | 21, _ => rfl
    | 22, _ => rfl
    | j + 23, h2 => omega
  · unfold own0
    rw [if_neg (by omega), if_neg (by omega), if_neg (by omega), if_neg (by omega), if_neg (by omega), if_neg (by omega), if_neg (by omega), if_neg (by omega)]
  · have hj7 : j = 1 ∨ j = 2 ∨ j = 3 ∨ j = 4 ∨ j = 5 ∨ j = 6 ∨ j = 7 := by omega
    have hL0 : ∀ {id pl al ci : Nat} {vs : Nat → List Value} {ws : va_W}, ws[pl]? = some (al, .inr (0, [.int 0, .ref tE, .int 0])) → own0 pl = id → pfL own0 ws tE cO id pl al 0 0 (fun _ => 0) (fun _ => 0) ci vs := fun h o => ⟨⟨0, Or.inl ⟨rfl, h⟩⟩, o, fun q => absurd q (Nat.lt_irrefl 0), fun i hi => absurd hi (Nat.not_lt_zero i), fun i _ hi => absurd hi (Nat.not_lt_zero i)⟩
    rcases hj7 with rfl | rfl | rfl | rfl | rfl | rfl | rfl
    · exact ⟨0, 0, fun _ => 0, fun _ => 0, hL0 rfl rfl, by decide, rfl, fun i hi => absurd hi (Nat.not_lt_zero i), fun i _ => ⟨rfl, rfl⟩⟩
    · refine ⟨ad 3, ad 4, 0, fill (-1 : Int32) 20, rfl, rfl, rfl, rfl, rfl, rfl, rfl, ⟨by decide, fun k hk => absurd hk (Nat.not_lt_zero k), fun k _ hk => hfill _ _ _ hk, fun k hk => absurd hk (Nat.not_lt_zero k), fun c hc => Or.inl (hfill (-1) 48 c hc)⟩, fun j _ => ?_⟩
      show ¬ uK (0 : Int32) 48
      decide
    · exact ⟨0, 0, fun _ => 0, fun _ => 0, hL0 rfl rfl, by decide, rfl, fun i hi => absurd hi (Nat.not_lt_zero i), fun k i h1 h2 _ => by unfold F0s; rw [if_neg (by omega), if_neg (by omega)]⟩
    · exact ⟨7, 8, ad 7, ad 8, fill (4 : Int32) 12, fun _ => 0, 0, 0, 0, 0, 0, rfl, rfl, rfl, by decide, rfl, rfl, rfl, fun k _ => rfl, rfl, rfl, Or.inl rfl, rfl, rfl, rfl⟩
    · exact ⟨rfl, rfl, 0, by decide, rfl⟩
    · exact ⟨0, fun _ => 0, fun _ => 0, hL0 rfl rfl, by decide, rfl⟩
    · exact ⟨0, 0, fun _ => 0, fun _ => 0, fun _ => 0, fun _ => 0, fun _ _ => 0, hL0 rfl rfl, fun i hi => absurd hi (Nat.not_lt_zero i), fun i _ hi => absurd hi (Nat.not_lt_zero i), fun i hi => absurd hi (Nat.not_lt_zero i), fun j _ => rfl, by decide, rfl, fun i hi => absurd hi (Nat.not_lt_zero i)⟩
