def jrem (x y : Int32) : Int32 := x - x / y * y
def jabs (x : Int32) : Int32 := if 0 ≤ x then x else 0 - x
def jmin (x y : Int32) : Int32 := if y < x then y else x
def jmax (x y : Int32) : Int32 := if x < y then y else x
def tI (tys : List (ClassId × FieldType)) (cI : ClassId) : Prop := tys[0]? = some (cI, .int)
def tO (tys : List (ClassId × FieldType)) (cO : ClassId) : Prop := tys[1]? = some (cO, .object "java/lang/Object")
theorem va_gs {ws : va_W} {k j : Nat} {e x : Nat × va_E} (h : j ≠ k) (hj : ws[j]? = some x) : (ws.set k e)[j]? = some x := by
  rw [List.getElem?_set_ne (Ne.symm h)]
  exact hj
theorem va_ge {ws : va_W} {k : Nat} {e x : Nat × va_E} (hk : ws[k]? = some x) : (ws.set k e)[k]? = some e :=
  List.getElem?_set_self (List.getElem?_eq_some_iff.mp hk).1
theorem va_ga {ws w2 : va_W} {k : Nat} {x : Nat × va_E} (hk : ws[k]? = some x) : (ws ++ w2)[k]? = some x := by
  rw [List.getElem?_append_left (List.getElem?_eq_some_iff.mp hk).1]
  exact hk
def pc0 (av : List Value) : Array Value → State → Prop := va_Pc av (fun _ => True)
def pcR (G : va_G) (tys : List (ClassId × FieldType)) (ws : va_W) (av : List Value) : Array Value → State → Prop := va_Pc av (fun U => va_P G vwCl ws U.heap ∧ va_K G vwCl tys U)
def pcM (G : va_G) (tys : List (ClassId × FieldType)) (ws : va_W) (A : Nat → Prop) (av : List Value) : Array Value → State → Prop := va_Pc av (fun U => va_P G vwCl ws U.heap ∧ va_K G vwCl tys U ∧ va_D A ws ∧ ∀ q : Nat, U.heap.size ≤ q → A q)
theorem pc0_b {av : List Value} : FrameBlind (pc0 av) := fun _ _ _ _ q => q
theorem pc0_u {s : State} {H : Heap} {av : List Value} : ∀ U : State, U.heap = H → s.WarmedH U.vm → pc0 av av.toArray U := fun _ _ _ => ⟨rfl, trivial⟩
theorem pcR_b {G : va_G} {tys : List (ClassId × FieldType)} {ws : va_W} {av : List Value} : FrameBlind (pcR G tys ws av) := fun a U g mk q => ⟨q.1, q.2.1, va_K.moved (u := U) (U := U.calling g mk a) (Vm.Alike.refl U.vm) q.2.2⟩
theorem pcR_u {G : va_G} {tys : List (ClassId × FieldType)} {ws : va_W} {av : List Value} {s : State} {H : Heap} (hP : va_P G vwCl ws H) (hK : va_K G vwCl tys s) : ∀ U : State, U.heap = H → s.WarmedH U.vm → pcR G tys ws av av.toArray U :=
  fun U hU hW => ⟨rfl, by rw [hU]; exact hP, va_K.moved hW.alike hK⟩
theorem pcM_b {G : va_G} {tys : List (ClassId × FieldType)} {ws : va_W} {A : Nat → Prop} {av : List Value} : FrameBlind (pcM G tys ws A av) := fun a U g mk q => ⟨q.1, q.2.1, va_K.moved (u := U) (U := U.calling g mk a) (Vm.Alike.refl U.vm) q.2.2.1, q.2.2.2⟩
theorem pcM_u {G : va_G} {tys : List (ClassId × FieldType)} {ws : va_W} {A : Nat → Prop} {av : List Value} {s : State} {H H0 : Heap} {locs : List Loc} (hP : va_P G vwCl ws H) (hK : va_K G vwCl tys s) (hD : va_D A ws) (hS : va_S A H0 H locs) (hA : ∀ q : Nat, H0.size ≤ q → A q) : ∀ U : State, U.heap = H → s.WarmedH U.vm → pcM G tys ws A av av.toArray U :=
  fun U hU hW => ⟨rfl, by rw [hU]; exact hP, va_K.moved hW.alike hK, hD, fun q h => hA q (Nat.le_trans hS.1 (by rw [← hU]; exact h))⟩
/-- an end: an int, and the world behind it -/
def qMi (G : va_G) (ws : va_W) (A : Nat → Prop) (post : Int32 → Prop) : Array Value → State → Outcome → State → Prop := va_Qi (fun r (_ : Unit) => post r) (fun _ t => va_P G vwCl ws t.heap) A
def qMv (G : va_G) (ws : va_W) (A : Nat → Prop) : Array Value → State → Outcome → State → Prop := va_Qv (fun (_ : Unit) => True) (fun _ t => va_P G vwCl ws t.heap) A
section HEnt
variable {l : Launch} {y : MethodName} {wy wy' : List Cond} {rm : Room} {G : va_G} {tys : List (ClassId × FieldType)} {ws : va_W} {A : Nat → Prop} {av : List Value} {Qc : Array Value → State → Outcome → State → Prop} {mc ms : Nat} {free : Addr → Prop} {cc : ByteArray} {maxL : Nat} {ret : Option FieldType}
theorem of0 (hy : plainName y.cls = true) (hw : wy = Cond.code y cc maxL ret :: wy') (hn : (lg_sl av).length ≤ maxL)
    (body : ∀ (p : Program) (e : Env) (s : State) (m : MethodId) (below : List Frame) (meth : Method) (c : Code) (ls : Array Slot), p.tables.exec = Jvm.exec → c.code = cc → meth.sig.returnType = ret → meth.locks = false → c.maxLocals = maxL → s.vm.findClass y.cls = some m.cls → (∀ w ∈ wy, w.before av.toArray s = true) → lv_has ls maxL (lv_args 0 av) →
      W p l e (headSpec wy rm).room s m av.toArray below meth c s.heap [] 0 0 (MQ below Qc av.toArray s mc ms free) (F0 m 0 ls [])) : Met l y wy rm (pc0 av) Qc mc ms free := by
  refine Met.ofW (cc := cc) (maxL := maxL) (ret := ret) hy hw ?_
  intro p e s m args below meth c s₁ B hml hv
  obtain ⟨rfl, -⟩ := hv
  have hl := lv_entry av (n := maxL) hn
  rw [lg_entry_eq]
  exact body p e s m below meth c _ B.exec B.bytes B.returns B.notSynchronized hml (findClass_of_methodNamed B.named) (atoms_spec (ws := wy) B.pre) hl
theorem ofR (hy : plainName y.cls = true) (hw : wy = Cond.code y cc maxL ret :: wy') (hn : (lg_sl av).length ≤ maxL)
    (body : ∀ (p : Program) (e : Env) (s : State) (m : MethodId) (below : List Frame) (meth : Method) (c : Code) (ls : Array Slot), p.tables.exec = Jvm.exec → c.code = cc → meth.sig.returnType = ret → meth.locks = false → c.maxLocals = maxL → s.vm.findClass y.cls = some m.cls → (∀ w ∈ wy, w.before av.toArray s = true) → lv_has ls maxL (lv_args 0 av) → va_P G vwCl ws s.heap → va_K G vwCl tys s →
      W p l e (headSpec wy rm).room s m av.toArray below meth c s.heap [] 0 0 (MQ below Qc av.toArray s mc ms free) (F0 m 0 ls [])) : Met l y wy rm (pcR G tys ws av) Qc mc ms free := by
  refine Met.ofW (cc := cc) (maxL := maxL) (ret := ret) hy hw ?_
  intro p e s m args below meth c s₁ B hml hv
  obtain ⟨rfl, hP, hK⟩ := hv
  have hl := lv_entry av (n := maxL) hn
  rw [lg_entry_eq]
  exact body p e s m below meth c _ B.exec B.bytes B.returns B.notSynchronized hml (findClass_of_methodNamed B.named) (atoms_spec (ws := wy) B.pre) hl hP hK
theorem ofM (hy : plainName y.cls = true) (hw : wy = Cond.code y cc maxL ret :: wy') (hn : (lg_sl av).length ≤ maxL)
    (body : ∀ (p : Program) (e : Env) (s : State) (m : MethodId) (below : List Frame) (meth : Method) (c : Code) (ls : Array Slot), p.tables.exec = Jvm.exec → c.code = cc → meth.sig.returnType = ret → meth.locks = false → c.maxLocals = maxL → s.vm.findClass y.cls = some m.cls → (∀ w ∈ wy, w.before av.toArray s = true) → meth.name = y.name → lv_has ls maxL (lv_args 0 av) → va_P G vwCl ws s.heap → va_K G vwCl tys s → va_D A ws → (∀ q : Nat, s.heap.size ≤ q → A q) → va_S A s.heap s.heap [] →
      W p l e (headSpec wy rm).room s m av.toArray below meth c s.heap [] 0 0 (MQ below Qc av.toArray s mc ms free) (F0 m 0 ls [])) : Met l y wy rm (pcM G tys ws A av) Qc mc ms free := by
  refine Met.ofW (cc := cc) (maxL := maxL) (ret := ret) hy hw ?_
  intro p e s m args below meth c s₁ B hml hv
  obtain ⟨rfl, hP, hK, hD, hA⟩ := hv
  have hl := lv_entry av (n := maxL) hn
  rw [lg_entry_eq]
  exact body p e s m below meth c _ B.exec B.bytes B.returns B.notSynchronized hml (findClass_of_methodNamed B.named) (atoms_spec (ws := wy) B.pre) (name_of_methodNamed B.named B.method).1 hl hP hK hD hA va_S.rf
theorem of0F (hy : plainFor y = true) (hw : wy = Cond.code y cc maxL ret :: wy') (hn : (lg_sl av).length ≤ maxL)
    (body : ∀ (p : Program) (e : Env) (s : State) (m : MethodId) (below : List Frame) (meth : Method) (c : Code) (ls : Array Slot), p.tables.exec = Jvm.exec → c.code = cc → meth.sig.returnType = ret → meth.locks = false → c.maxLocals = maxL → s.vm.findClass y.cls = some m.cls → (∀ w ∈ wy, w.before av.toArray s = true) → lv_has ls maxL (lv_args 0 av) →
      W p l e (headSpec wy rm).room s m av.toArray below meth c s.heap [] 0 0 (MQ below Qc av.toArray s mc ms free) (F0 m 0 ls [])) : Met l y wy rm (pc0 av) Qc mc ms free := by
  refine va_MetF (cc := cc) (maxL := maxL) (ret := ret) hy hw ?_
  intro p e s m args below meth c s₁ B hml hv
  obtain ⟨rfl, -⟩ := hv
  have hl := lv_entry av (n := maxL) hn
  rw [lg_entry_eq]
  exact body p e s m below meth c _ B.exec B.bytes B.returns B.notSynchronized hml (findClass_of_methodNamed B.named) (atoms_spec (ws := wy) B.pre) hl
theorem ofRF (hy : plainFor y = true) (hw : wy = Cond.code y cc maxL ret :: wy') (hn : (lg_sl av).length ≤ maxL)
    (body : ∀ (p : Program) (e : Env) (s : State) (m : MethodId) (below : List Frame) (meth : Method) (c : Code) (ls : Array Slot), p.tables.exec = Jvm.exec → c.code = cc → meth.sig.returnType = ret → meth.locks = false → c.maxLocals = maxL → s.vm.findClass y.cls = some m.cls → (∀ w ∈ wy, w.before av.toArray s = true) → lv_has ls maxL (lv_args 0 av) → va_P G vwCl ws s.heap → va_K G vwCl tys s →
      W p l e (headSpec wy rm).room s m av.toArray below meth c s.heap [] 0 0 (MQ below Qc av.toArray s mc ms free) (F0 m 0 ls [])) : Met l y wy rm (pcR G tys ws av) Qc mc ms free := by
  refine va_MetF (cc := cc) (maxL := maxL) (ret := ret) hy hw ?_
  intro p e s m args below meth c s₁ B hml hv
  obtain ⟨rfl, hP, hK⟩ := hv
  have hl := lv_entry av (n := maxL) hn
  rw [lg_entry_eq]
  exact body p e s m below meth c _ B.exec B.bytes B.returns B.notSynchronized hml (findClass_of_methodNamed B.named) (atoms_spec (ws := wy) B.pre) hl hP hK
theorem ofMF (hy : plainFor y = true) (hw : wy = Cond.code y cc maxL ret :: wy') (hn : (lg_sl av).length ≤ maxL)
    (body : ∀ (p : Program) (e : Env) (s : State) (m : MethodId) (below : List Frame) (meth : Method) (c : Code) (ls : Array Slot), p.tables.exec = Jvm.exec → c.code = cc → meth.sig.returnType = ret → meth.locks = false → c.maxLocals = maxL → s.vm.findClass y.cls = some m.cls → (∀ w ∈ wy, w.before av.toArray s = true) → meth.name = y.name → lv_has ls maxL (lv_args 0 av) → va_P G vwCl ws s.heap → va_K G vwCl tys s → va_D A ws → (∀ q : Nat, s.heap.size ≤ q → A q) → va_S A s.heap s.heap [] →
      W p l e (headSpec wy rm).room s m av.toArray below meth c s.heap [] 0 0 (MQ below Qc av.toArray s mc ms free) (F0 m 0 ls [])) : Met l y wy rm (pcM G tys ws A av) Qc mc ms free := by
  refine va_MetF (cc := cc) (maxL := maxL) (ret := ret) hy hw ?_
  intro p e s m args below meth c s₁ B hml hv
  obtain ⟨rfl, hP, hK, hD, hA⟩ := hv
  have hl := lv_entry av (n := maxL) hn
  rw [lg_entry_eq]
  exact body p e s m below meth c _ B.exec B.bytes B.returns B.notSynchronized hml (findClass_of_methodNamed B.named) (atoms_spec (ws := wy) B.pre) (name_of_methodNamed B.named B.method).1 hl hP hK hD hA va_S.rf
end HEnt
section HRow
variable {p : Program} {l : Launch} {e : Env} {R : Room} {s : State} {m : MethodId} {args : Array Value} {below : List Frame} {meth : Method} {c : Code} {H : Heap} {locs : List Loc} {cells slots : Nat} {Q : State → Prop} {pc : Nat} {ls : Array Slot} {rest : List Value}
theorem fold_rem {x y : Int32} (k : W p l e R s m args below meth c H locs cells slots Q (F0 m pc ls (.int (jrem x y) :: rest))) : W p l e R s m args below meth c H locs cells slots Q (F0 m pc ls (.int (x - x / y * y) :: rest)) := k
theorem fold_abs {x : Int32} (k : W p l e R s m args below meth c H locs cells slots Q (F0 m pc ls (.int (jabs x) :: rest))) : W p l e R s m args below meth c H locs cells slots Q (F0 m pc ls (.int (if 0 ≤ x then x else 0 - x) :: rest)) := k
theorem fold_min {x y : Int32} (k : W p l e R s m args below meth c H locs cells slots Q (F0 m pc ls (.int (jmin x y) :: rest))) : W p l e R s m args below meth c H locs cells slots Q (F0 m pc ls (.int (if y < x then y else x) :: rest)) := k
theorem fold_max {x y : Int32} (k : W p l e R s m args below meth c H locs cells slots Q (F0 m pc ls (.int (jmax x y) :: rest))) : W p l e R s m args below meth c H locs cells slots Q (F0 m pc ls (.int (if x < y then y else x) :: rest)) := k
theorem rd_i {f : Nat → Int32} {i : Int32} {j : Nat} (h : i.toNatClampNeg = j) (k : W p l e R s m args below meth c H locs cells slots Q (F0 m pc ls (.int (f j) :: rest))) : W p l e R s m args below meth c H locs cells slots Q (F0 m pc ls (.int (f i.toNatClampNeg) :: rest)) := by rw [h]; exact k
theorem re_i {x y : Int32} (h : x = y) (k : W p l e R s m args below meth c H locs cells slots Q (F0 m pc ls (.int y :: rest))) : W p l e R s m args below meth c H locs cells slots Q (F0 m pc ls (.int x :: rest)) := by rw [h]; exact k
theorem re_l {x y : Int64} (h : x = y) (k : W p l e R s m args below meth c H locs cells slots Q (F0 m pc ls (.long y :: rest))) : W p l e R s m args below meth c H locs cells slots Q (F0 m pc ls (.long x :: rest)) := by rw [h]; exact k
/-- what stands behind a diamond, once for both its branches -/
theorem cut_i (E : Int32) (tgt : Nat) (g : JFrame) (hJ : W p l e R s m args below meth c H locs cells slots Q (F0 m tgt ls (.int E :: rest))) (k : (∀ x : Int32, x = E → W p l e R s m args below meth c H locs cells slots Q (F0 m tgt ls (.int x :: rest))) → W p l e R s m args below meth c H locs cells slots Q g) : W p l e R s m args below meth c H locs cells slots Q g :=
  k (fun x hx => by rw [hx]; exact hJ)
/-- a loop that writes no heap: i goes up to N; the locals by i, and what is known by i -/
theorem loopR (N head nL : Nat) (I : Nat → List (Nat × Value)) (K : Nat → Prop)
    (hs : ∀ i, i ≤ N → K i → (∀ ls, i < N → K (i + 1) → lv_has ls nL (I (i + 1)) → W p l e R s m args below meth c H locs cells slots Q (F0 m head ls rest)) → ∀ ls, lv_has ls nL (I i) → W p l e R s m args below meth c H locs cells slots Q (F0 m head ls rest))
    {i0 : Nat} (hi : i0 ≤ N) (hK0 : K i0) (hl : lv_has ls nL (I i0)) : W p l e R s m args below meth c H locs cells slots Q (F0 m head ls rest) := by
  have key : ∀ (n i : Nat), i ≤ N → N - i ≤ n → K i → ∀ ls, lv_has ls nL (I i) → W p l e R s m args below meth c H locs cells slots Q (F0 m head ls rest) := by
    intro n
    induction n with
    | zero => exact fun i h1 h2 h3 => hs i h1 h3 (fun _ h => absurd h (by omega))
    | succ n ih => exact fun i h1 h2 h3 => hs i h1 h3 (fun ls2 h4 h5 h6 => ih (i + 1) h4 (by omega) h5 ls2 h6)
  exact key N i0 hi (by omega) hK0 ls hl
end HRow
section HLoop
variable {p : Program} {l : Launch} {e : Env} {R : Room} {s : State} {m : MethodId} {args : Array Value} {below : List Frame} {meth : Method} {c : Code} {cells slots : Nat} {Q : State → Prop} {rest : List Value} {G : va_G} {A : Nat → Prop} {H0 : Heap}
/-- a loop that writes cells of the world -/
theorem loopM (N head nL : Nat) (I : Nat → List (Nat × Value)) (V : Nat → va_W) (K : Nat → Prop)
    (hs : ∀ i, i ≤ N → K i → (∀ H locs ls, i < N → K (i + 1) → va_P G vwCl (V (i + 1)) H → va_D A (V (i + 1)) → va_S A H0 H locs → lv_has ls nL (I (i + 1)) → W p l e R s m args below meth c H locs cells slots Q (F0 m head ls rest)) → ∀ H locs ls, va_P G vwCl (V i) H → va_D A (V i) → va_S A H0 H locs → lv_has ls nL (I i) → W p l e R s m args below meth c H locs cells slots Q (F0 m head ls rest))
    {i0 : Nat} {H : Heap} {locs : List Loc} {ls : Array Slot} (hi : i0 ≤ N) (hK0 : K i0) (hP : va_P G vwCl (V i0) H) (hD : va_D A (V i0)) (hS : va_S A H0 H locs) (hl : lv_has ls nL (I i0)) : W p l e R s m args below meth c H locs cells slots Q (F0 m head ls rest) := by
  have key : ∀ (n i : Nat), i ≤ N → N - i ≤ n → K i → ∀ H locs ls, va_P G vwCl (V i) H → va_D A (V i) → va_S A H0 H locs → lv_has ls nL (I i) → W p l e R s m args below meth c H locs cells slots Q (F0 m head ls rest) := by
    intro n
    induction n with
    | zero => exact fun i h1 h2 h3 => hs i h1 h3 (fun _ _ _ h => absurd h (by omega))
    | succ n ih => exact fun i h1 h2 h3 => hs i h1 h3 (fun H2 l2 ls2 h4 h5 h6 h7 h8 h9 => ih (i + 1) h4 (by omega) h5 H2 l2 ls2 h6 h7 h8 h9)
  exact key N i0 hi (by omega) hK0 H locs ls hP hD hS hl
end HLoop
