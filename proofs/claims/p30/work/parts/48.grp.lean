section Grs
variable {own own2 : Nat → Nat} {ws w2 : va_W} {tE : Nat} {cI cO : ClassId} {z z2 : Nat → Int32} {F F2 : Nat → Nat → Int32} {wi dm wi2 dm2 : Int64}
def rgR (a b c d : Int32) : Prop := (1 ≤ a.toInt ∧ a.toInt ≤ 100) ∧ (50 ≤ b.toInt ∧ b.toInt ≤ 1000) ∧ (-1000000 ≤ c.toInt ∧ c.toInt ≤ 1000000) ∧ (-1101 ≤ d.toInt ∧ d.toInt ≤ 1101)
/-- the class's addresses -/
abbrev A7 : Type := Nat × Nat × Nat × Nat × Nat × Nat × Nat
end Grs
section Inv
variable {cI cO cJ cB : ClassId} {tE v am oj od : Nat} {ws w2 : va_W} {own own2 : Nat → Nat} {ad : Nat → Nat} {z z2 : Nat → Int32} {F F2 : Nat → Nat → Int32} {wi dm wi2 dm2 : Int64} {a : A7} {np np2 : Nat}
theorem cd1 {c : Prop} [Decidable c] {a b : Int32} (ha : ¬ a = 0) (h : (if c then a else b) = 0) : ¬ c ∧ b = 0 := by
  by_cases q : c
  · rw [if_pos q] at h; exact absurd h ha
  · rw [if_neg q] at h; exact ⟨q, h⟩
end Inv
section Mop
variable {l : Launch} {y : MethodName} {wy : List Cond} {rm : Room} {G : va_G} {A : Nat → Prop} {Pc : Array Value → State → Prop} {mc ms : Nat} {free : Addr → Prop} {U : Type} {Wf : U → va_W}
theorem mopI {post : Int32 → U → Prop} (hM : Met l y wy rm Pc (va_Qi post (fun u t => va_P G vwCl (Wf u) t.heap ∧ va_D A (Wf u)) A) mc ms free) {E : va_W → Int32 → Prop} (h : ∀ r u, post r u → E (Wf u) r) : Met l y wy rm Pc (va_Qi (fun r (w : va_W) => E w r) (fun w t => va_P G vwCl w t.heap ∧ va_D A w) A) mc ms free :=
  met_mono hM (fun _ _ q => q) (fun a s o t _ hq => by
    obtain ⟨⟨r, u, ho, hp, hB⟩, hF⟩ := hq
    exact ⟨⟨r, Wf u, ho, h r u hp, hB⟩, hF⟩)
theorem mopL {post : Int64 → U → Prop} (hM : Met l y wy rm Pc (va_Ql post (fun u t => va_P G vwCl (Wf u) t.heap ∧ va_D A (Wf u)) A) mc ms free) {E : va_W → Int64 → Prop} (h : ∀ r u, post r u → E (Wf u) r) : Met l y wy rm Pc (va_Ql (fun r (w : va_W) => E w r) (fun w t => va_P G vwCl w t.heap ∧ va_D A w) A) mc ms free :=
  met_mono hM (fun _ _ q => q) (fun a s o t _ hq => by
    obtain ⟨⟨r, u, ho, hp, hB⟩, hF⟩ := hq
    exact ⟨⟨r, Wf u, ho, h r u hp, hB⟩, hF⟩)
theorem mopV {post : U → Prop} (hM : Met l y wy rm Pc (va_Qv post (fun u t => va_P G vwCl (Wf u) t.heap ∧ va_D A (Wf u)) A) mc ms free) {E : va_W → Prop} (h : ∀ u, post u → E (Wf u)) : Met l y wy rm Pc (va_Qv (fun (w : va_W) => E w) (fun w t => va_P G vwCl w t.heap ∧ va_D A w) A) mc ms free :=
  met_mono hM (fun _ _ q => q) (fun a s o t _ hq => by
    obtain ⟨⟨u, ho, hp, hB⟩, hF⟩ := hq
    exact ⟨⟨Wf u, ho, h u hp, hB⟩, hF⟩)
end Mop
