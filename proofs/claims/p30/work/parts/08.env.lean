def eIA : String := "java/lang/IllegalArgumentException"
def eIS : String := "java/lang/IllegalStateException"
def eIB : String := "java/lang/IndexOutOfBoundsException"
def envW : List Cond := [.castable "java/lang/IllegalArgumentException" "java/lang/IllegalArgumentException", .castable "java/lang/IllegalStateException" "java/lang/IllegalStateException", .castable "java/lang/IndexOutOfBoundsException" "java/lang/IndexOutOfBoundsException",
  .castable "Vortexpin$Ring" "java/lang/Object", .castable "Vortexpin$Point" "java/lang/Object", .castable "Vortexpin$Claim" "java/lang/Object",
  .declares ⟨"java/lang/RuntimeException", "<init>", "()V"⟩, .declares ⟨"java/lang/RuntimeException", "<init>", "(Ljava/lang/String;)V"⟩, .declares ⟨"java/lang/Exception", "<init>", "()V"⟩, .declares ⟨"java/lang/Exception", "<init>", "(Ljava/lang/String;)V"⟩, .declares ⟨"java/lang/Throwable", "<init>", "()V"⟩, .declares ⟨"java/lang/Throwable", "<init>", "(Ljava/lang/String;)V"⟩,
  .declares ⟨"java/lang/Object", "getClass", "()Ljava/lang/Class;"⟩]
def envN : List (String × String) := []
theorem envW_on : ∀ w ∈ envW, w.onTables = true := by decide +kernel
theorem envW_tbl : ∀ w ∈ envW, w ∈ lw_tbl := by decide +kernel
theorem envW_A : ∀ w ∈ (vx_atS RX7 213 "java/lang/IllegalArgumentException" ["java/lang/RuntimeException", "java/lang/Exception"]).filter (fun w => !goodWord w), w ∈ envW := by decide +kernel
theorem envW_S : ∀ w ∈ (vx_atS RX7 225 "java/lang/IllegalStateException" ["java/lang/RuntimeException", "java/lang/Exception"]).filter (fun w => !goodWord w), w ∈ envW := by decide +kernel
theorem envW_B : ∀ w ∈ (vx_atS RX7 220 "java/lang/IndexOutOfBoundsException" ["java/lang/RuntimeException", "java/lang/Exception"]).filter (fun w => !goodWord w), w ∈ envW := by decide +kernel
theorem otA : ∀ w ∈ Cond.classLink RX7 209 "java/lang/IllegalArgumentException" :: Cond.initialized "java/lang/IllegalArgumentException" :: vx_atS RX7 213 "java/lang/IllegalArgumentException" ["java/lang/RuntimeException", "java/lang/Exception"], vx_ot w = true := by decide +kernel
theorem otS : ∀ w ∈ Cond.classLink RX7 221 "java/lang/IllegalStateException" :: Cond.initialized "java/lang/IllegalStateException" :: vx_atS RX7 225 "java/lang/IllegalStateException" ["java/lang/RuntimeException", "java/lang/Exception"], vx_ot w = true := by decide +kernel
theorem otB : ∀ w ∈ Cond.classLink RX7 216 "java/lang/IndexOutOfBoundsException" :: Cond.initialized "java/lang/IndexOutOfBoundsException" :: vx_atS RX7 220 "java/lang/IndexOutOfBoundsException" ["java/lang/RuntimeException", "java/lang/Exception"], vx_ot w = true := by decide +kernel
theorem fitN : ∀ n ∈ (["java/lang/RuntimeException", "java/lang/Exception"] : List String), Bundle.fit n = true := by decide +kernel
theorem fitA : Bundle.fit "java/lang/IllegalArgumentException" = true := by decide +kernel
theorem fitS : Bundle.fit "java/lang/IllegalStateException" = true := by decide +kernel
theorem fitB : Bundle.fit "java/lang/IndexOutOfBoundsException" = true := by decide +kernel
def nwOK (w : Cond) : Prop := (∃ C T, w = .castable C T) ∨ ∃ x, w = .declares x
theorem nw_warm {w : Cond} {s U : State} (hW : s.WarmedH U.vm) (h : nwOK w) (hw : va_Nw w s) : va_Nw w U := by
  rcases h with ⟨C, T, rfl⟩ | ⟨x, rfl⟩
  · exact va_Nw.warmC hW hw
  · exact va_Nw.warmD hW hw
theorem envW_ok : ∀ w ∈ envW, nwOK w := by
  intro w hw
  simp only [envW, List.mem_cons, List.not_mem_nil, or_false] at hw
  rcases hw with rfl | rfl | rfl | rfl | rfl | rfl | rfl | rfl | rfl | rfl | rfl | rfl | rfl
  all_goals first | exact Or.inl ⟨_, _, rfl⟩ | exact Or.inr ⟨_, rfl⟩
def env (A : Nat → Prop) (tE mi : Nat) (U : State) (H : Heap) : Prop :=
  vx_Zq Bundle.tN "UNASSIGNED_STACK" Bundle.steD A U H ∧ vx_Zq Bundle.tN "SUPPRESSED_SENTINEL" Bundle.listD A U H ∧ (∃ a, vk_R RX7 211 "out of range" a U) ∧ (∃ a, vk_R RX7 218 "no such number" a U) ∧ (∃ a, vk_R RX7 223 "no room for more" a U) ∧
  va_Z "java/util/ArrayList" "DEFAULTCAPACITY_EMPTY_ELEMENTDATA" "[Ljava/lang/Object;" (.ref tE) A U H ∧ va_T (.object "java/lang/Object") tE 0 (fun _ => .null) A U H ∧ va_AO "java/lang/Object" U ∧ va_Mi "[Ljava/lang/Object;" mi U ∧ (∀ w ∈ envW, va_Nw w U) ∧ ∀ q ∈ envN, va_Nc q.1 q.2 U
theorem env.warm {A : Nat → Prop} {tE mi : Nat} {s U : State} {H : Heap} (hW : s.WarmedH U.vm) (h : env A tE mi s H) : env A tE mi U H := by
  obtain ⟨h1, h2, ⟨a3, h3⟩, ⟨a4, h4⟩, ⟨a5, h5⟩, h6, h7, h8, h9, h10, h11⟩ := h
  exact ⟨h1.moved hW.alike, h2.moved hW.alike, ⟨a3, h3.warm hW⟩, ⟨a4, h4.warm hW⟩, ⟨a5, h5.warm hW⟩, h6.moved hW.alike, h7.moved hW.alike, h8.moved hW.alike, h9.moved hW.alike, fun w hw => nw_warm hW (envW_ok w hw) (h10 w hw), fun q hq => (h11 q hq).moved hW.alike⟩
theorem env.same {A : Nat → Prop} {tE mi : Nat} {u U : State} {H : Heap} (hv : U.vm = u.vm) (h : env A tE mi u H) : env A tE mi U H := by
  obtain ⟨h1, h2, ⟨a3, h3⟩, ⟨a4, h4⟩, ⟨a5, h5⟩, h6, h7, h8, h9, h10, h11⟩ := h
  have ha : u.vm.Alike U.vm := by rw [hv]; exact Vm.Alike.refl _
  exact ⟨h1.moved ha, h2.moved ha, ⟨a3, h3.same hv⟩, ⟨a4, h4.same hv⟩, ⟨a5, h5.same hv⟩, h6.moved ha, h7.moved ha, h8.moved ha, h9.moved ha, fun w hw => (h10 w hw).same (envW_on w hw) hv.symm, fun q hq => (h11 q hq).moved ha⟩
theorem env.kept {A : Nat → Prop} {tE mi : Nat} {U : State} {H H1 : Heap} (h : env A tE mi U H) (hq : ∀ a : Nat, a < H.size → ¬ A a → H1[a]? = H[a]?) : env A tE mi U H1 := by
  obtain ⟨h1, h2, h3, h4, h5, h6, h7, h8, h9, h10, h11⟩ := h
  exact ⟨h1.kept hq, h2.kept hq, h3, h4, h5, h6.kept hq, h7.kept hq, h8, h9, h10, h11⟩
theorem env.S {A : Nat → Prop} {tE mi : Nat} {U : State} {H H1 : Heap} {locs : List Loc} (h : env A tE mi U H) (hS : va_S A H H1 locs) : env A tE mi U H1 := h.kept hS.2.1
def pcE (A : Nat → Prop) (tE mi : Nat) (av : List Value) : Array Value → State → Prop := va_Pc av (fun U => (∀ q : Nat, U.heap.size ≤ q → A q) ∧ env A tE mi U U.heap)
def pcX (G : va_G) (tys : List (ClassId × FieldType)) (ws : va_W) (A : Nat → Prop) (tE mi : Nat) (av : List Value) : Array Value → State → Prop := va_Pc av (fun U => va_P G vwCl ws U.heap ∧ va_K G vwCl tys U ∧ va_D A ws ∧ (∀ q : Nat, U.heap.size ≤ q → A q) ∧ env A tE mi U U.heap)
theorem pcE_b {A : Nat → Prop} {tE mi : Nat} {av : List Value} : FrameBlind (pcE A tE mi av) := fun a U g mk q => ⟨q.1, q.2.1, env.same (u := U) (U := U.calling g mk a) (H := U.heap) rfl q.2.2⟩
theorem pcE_u {A : Nat → Prop} {tE mi : Nat} {av : List Value} {s : State} {H : Heap} {locs : List Loc} (hE : env A tE mi s s.heap) (hS : va_S A s.heap H locs) (hA : ∀ q : Nat, s.heap.size ≤ q → A q) : ∀ U : State, U.heap = H → s.WarmedH U.vm → pcE A tE mi av av.toArray U :=
  fun U hU hW => ⟨rfl, fun q h => hA q (Nat.le_trans hS.1 (by rw [← hU]; exact h)), by rw [hU]; exact (hE.S hS).warm hW⟩
theorem pcX_b {G : va_G} {tys : List (ClassId × FieldType)} {ws : va_W} {A : Nat → Prop} {tE mi : Nat} {av : List Value} : FrameBlind (pcX G tys ws A tE mi av) := fun a U g mk q => ⟨q.1, q.2.1, va_K.moved (u := U) (U := U.calling g mk a) (Vm.Alike.refl U.vm) q.2.2.1, q.2.2.2.1, q.2.2.2.2.1, env.same (u := U) (U := U.calling g mk a) (H := U.heap) rfl q.2.2.2.2.2⟩
theorem pcX_u {G : va_G} {tys : List (ClassId × FieldType)} {ws : va_W} {A : Nat → Prop} {tE mi : Nat} {av : List Value} {s : State} {H : Heap} {locs : List Loc} (hP : va_P G vwCl ws H) (hK : va_K G vwCl tys s) (hD : va_D A ws) (hS : va_S A s.heap H locs) (hA : ∀ q : Nat, s.heap.size ≤ q → A q) (hE : env A tE mi s s.heap) : ∀ U : State, U.heap = H → s.WarmedH U.vm → pcX G tys ws A tE mi av av.toArray U :=
  fun U hU hW => ⟨rfl, by rw [hU]; exact hP, va_K.moved hW.alike hK, hD, fun q h => hA q (Nat.le_trans hS.1 (by rw [← hU]; exact h)), by rw [hU]; exact (hE.S hS).warm hW⟩
/-- what a method that throws says of it: the class by its name, and nothing old has changed -/
def xcT (C : String → Prop) : String → State → State → Prop := vx_X (fun (_ : Unit) => True) (fun E _ _ => C E) (fun _ => False)
theorem xcT.mk {C : String → Prop} {E : String} {s t : State} {H : Heap} (hC : C E) (hs : s.heap = H) (h1 : H.size ≤ t.heap.size) (h2 : ∀ q : Nat, q < H.size → t.heap[q]? = H[q]?) : xcT C E s t := ⟨(), trivial, hC, by rw [hs]; exact h1, fun q h _ => by rw [hs] at h ⊢; exact h2 q h⟩
theorem hat_of {args : Array Value} {s : State} {A : Nat → Prop} {tE mi : Nat} {H : Heap} {L : List Cond} (hE : env A tE mi s H) (h1 : ∀ w ∈ L.filter goodWord, w.before args s = true) (h2 : ∀ w ∈ L.filter (fun w => !goodWord w), w ∈ envW) : ∀ w ∈ L, w.before args s = true :=
  vx_hat h1 h2 (fun w hw => (hE.2.2.2.2.2.2.2.2.2.1 w hw).use (envW_on w hw))
section XEnt
variable {l : Launch} {y : MethodName} {wy wy' : List Cond} {rm : Room} {G : va_G} {tys : List (ClassId × FieldType)} {ws : va_W} {A : Nat → Prop} {tE mi : Nat} {av : List Value} {Qc : Array Value → State → Outcome → State → Prop} {XC : String → State → State → Prop} {mc ms : Nat} {free : Addr → Prop} {cc : ByteArray} {maxL : Nat} {ret : Option FieldType}
theorem ofE (hy : plainName y.cls = true) (hw : wy = Cond.code y cc maxL ret :: wy') (hn : (lg_sl av).length ≤ maxL)
    (body : ∀ (p : Program) (e : Env) (s : State) (m : MethodId) (below : List Frame) (meth : Method) (c : Code) (ls : Array Slot), p.tables.exec = Jvm.exec → c.code = cc → meth.sig.returnType = ret → meth.locks = false → c.maxLocals = maxL → s.vm.findClass y.cls = some m.cls → (∀ w ∈ wy, w.before av.toArray s = true) → (∀ x ∈ c.exceptionTable.toList, False) → lv_has ls maxL (lv_args 0 av) → (∀ q : Nat, s.heap.size ≤ q → A q) → env A tE mi s s.heap →
      W p l e (headSpec wy rm).room s m av.toArray below meth c s.heap [] 0 0 (vx_MQ below Qc XC av.toArray s mc ms free) (F0 m 0 ls [])) : vx_Met l y wy rm (pcE A tE mi av) Qc XC mc ms free := by
  refine vx_ofW (cc := cc) (maxL := maxL) (ret := ret) hy hw ?_
  intro p e s m args below meth c s₁ B hml hno hv
  obtain ⟨rfl, hA, hE⟩ := hv
  have hl := lv_entry av (n := maxL) hn
  rw [lg_entry_eq]
  exact body p e s m below meth c _ B.exec B.bytes B.returns B.notSynchronized hml (findClass_of_methodNamed B.named) (atoms_spec (ws := wy) B.pre) hno hl hA hE
theorem ofX (hy : plainName y.cls = true) (hw : wy = Cond.code y cc maxL ret :: wy') (hn : (lg_sl av).length ≤ maxL)
    (body : ∀ (p : Program) (e : Env) (s : State) (m : MethodId) (below : List Frame) (meth : Method) (c : Code) (ls : Array Slot), p.tables.exec = Jvm.exec → c.code = cc → meth.sig.returnType = ret → meth.locks = false → c.maxLocals = maxL → s.vm.findClass y.cls = some m.cls → (∀ w ∈ wy, w.before av.toArray s = true) → (∀ x ∈ c.exceptionTable.toList, False) → lv_has ls maxL (lv_args 0 av) → va_P G vwCl ws s.heap → va_K G vwCl tys s → va_D A ws → (∀ q : Nat, s.heap.size ≤ q → A q) → va_S A s.heap s.heap [] → env A tE mi s s.heap →
      W p l e (headSpec wy rm).room s m av.toArray below meth c s.heap [] 0 0 (vx_MQ below Qc XC av.toArray s mc ms free) (F0 m 0 ls [])) : vx_Met l y wy rm (pcX G tys ws A tE mi av) Qc XC mc ms free := by
  refine vx_ofW (cc := cc) (maxL := maxL) (ret := ret) hy hw ?_
  intro p e s m args below meth c s₁ B hml hno hv
  obtain ⟨rfl, hP, hK, hD, hA, hE⟩ := hv
  have hl := lv_entry av (n := maxL) hn
  rw [lg_entry_eq]
  exact body p e s m below meth c _ B.exec B.bytes B.returns B.notSynchronized hml (findClass_of_methodNamed B.named) (atoms_spec (ws := wy) B.pre) hno hl hP hK hD hA va_S.rf hE
theorem ofXM (hy : plainName y.cls = true) (hw : wy = Cond.code y cc maxL ret :: wy') (hn : (lg_sl av).length ≤ maxL)
    (body : ∀ (p : Program) (e : Env) (s : State) (m : MethodId) (below : List Frame) (meth : Method) (c : Code) (ls : Array Slot), p.tables.exec = Jvm.exec → c.code = cc → meth.sig.returnType = ret → meth.locks = false → c.maxLocals = maxL → s.vm.findClass y.cls = some m.cls → (∀ w ∈ wy, w.before av.toArray s = true) → meth.name = y.name → lv_has ls maxL (lv_args 0 av) → va_P G vwCl ws s.heap → va_K G vwCl tys s → va_D A ws → (∀ q : Nat, s.heap.size ≤ q → A q) → va_S A s.heap s.heap [] → env A tE mi s s.heap →
      W p l e (headSpec wy rm).room s m av.toArray below meth c s.heap [] 0 0 (MQ below Qc av.toArray s mc ms free) (F0 m 0 ls [])) : Met l y wy rm (pcX G tys ws A tE mi av) Qc mc ms free := by
  refine Met.ofW (cc := cc) (maxL := maxL) (ret := ret) hy hw ?_
  intro p e s m args below meth c s₁ B hml hv
  obtain ⟨rfl, hP, hK, hD, hA, hE⟩ := hv
  have hl := lv_entry av (n := maxL) hn
  rw [lg_entry_eq]
  exact body p e s m below meth c _ B.exec B.bytes B.returns B.notSynchronized hml (findClass_of_methodNamed B.named) (atoms_spec (ws := wy) B.pre) (name_of_methodNamed B.named B.method).1 hl hP hK hD hA va_S.rf hE
theorem ofXMF (hy : plainFor y = true) (hw : wy = Cond.code y cc maxL ret :: wy') (hn : (lg_sl av).length ≤ maxL)
    (body : ∀ (p : Program) (e : Env) (s : State) (m : MethodId) (below : List Frame) (meth : Method) (c : Code) (ls : Array Slot), p.tables.exec = Jvm.exec → c.code = cc → meth.sig.returnType = ret → meth.locks = false → c.maxLocals = maxL → s.vm.findClass y.cls = some m.cls → (∀ w ∈ wy, w.before av.toArray s = true) → meth.name = y.name → lv_has ls maxL (lv_args 0 av) → va_P G vwCl ws s.heap → va_K G vwCl tys s → va_D A ws → (∀ q : Nat, s.heap.size ≤ q → A q) → va_S A s.heap s.heap [] → env A tE mi s s.heap →
      W p l e (headSpec wy rm).room s m av.toArray below meth c s.heap [] 0 0 (MQ below Qc av.toArray s mc ms free) (F0 m 0 ls [])) : Met l y wy rm (pcX G tys ws A tE mi av) Qc mc ms free := by
  refine va_MetF (cc := cc) (maxL := maxL) (ret := ret) hy hw ?_
  intro p e s m args below meth c s₁ B hml hv
  obtain ⟨rfl, hP, hK, hD, hA, hE⟩ := hv
  have hl := lv_entry av (n := maxL) hn
  rw [lg_entry_eq]
  exact body p e s m below meth c _ B.exec B.bytes B.returns B.notSynchronized hml (findClass_of_methodNamed B.named) (atoms_spec (ws := wy) B.pre) (name_of_methodNamed B.named B.method).1 hl hP hK hD hA va_S.rf hE
end XEnt
