/-! THE LAW'S OWN METHODS: a cell of the script, a number below another -/
def pcS (b L : Nat) (xs : Nat → Int32) (av : List Value) : Array Value → State → Prop := va_Pc av (fun U => va_X b L xs U U.heap)
theorem pcS_b {b L : Nat} {xs : Nat → Int32} {av : List Value} : FrameBlind (pcS b L xs av) := fun a U g mk q => ⟨q.1, va_X.moved (u := U) (U := U.calling g mk a) (Vm.Alike.refl U.vm) q.2⟩
theorem pcS_u {b L : Nat} {xs : Nat → Int32} {av : List Value} {s : State} {A : Nat → Prop} {H : Heap} {locs : List Loc} (hX : va_X b L xs s s.heap) (hbl : b < s.heap.size) (hbA : ¬ A b) (hS : va_S A s.heap H locs) : ∀ U : State, U.heap = H → s.WarmedH U.vm → pcS b L xs av av.toArray U :=
  fun U hU hW => ⟨rfl, by show va_X b L xs U U.heap; rw [hU]; exact (hX.kept (hS.2.1 b hbl hbA)).moved hW.alike⟩
theorem ofS {l : Launch} {y : MethodName} {wy wy' : List Cond} {rm : Room} {b L : Nat} {xs : Nat → Int32} {av : List Value} {Qc : Array Value → State → Outcome → State → Prop} {mc ms : Nat} {free : Addr → Prop} {cc : ByteArray} {maxL : Nat} {ret : Option FieldType} (hy : plainName y.cls = true) (hw : wy = Cond.code y cc maxL ret :: wy') (hn : (lg_sl av).length ≤ maxL)
    (body : ∀ (p : Program) (e : Env) (s : State) (m : MethodId) (below : List Frame) (meth : Method) (c : Code) (ls : Array Slot), p.tables.exec = Jvm.exec → c.code = cc → meth.sig.returnType = ret → meth.locks = false → c.maxLocals = maxL → s.vm.findClass y.cls = some m.cls → (∀ w ∈ wy, w.before av.toArray s = true) → lv_has ls maxL (lv_args 0 av) → va_X b L xs s s.heap →
      W p l e (headSpec wy rm).room s m av.toArray below meth c s.heap [] 0 0 (MQ below Qc av.toArray s mc ms free) (F0 m 0 ls [])) : Met l y wy rm (pcS b L xs av) Qc mc ms free := by
  refine Met.ofW (cc := cc) (maxL := maxL) (ret := ret) hy hw ?_
  intro p e s m args below meth c s₁ B hml hv
  obtain ⟨rfl, hX⟩ := hv
  have hl := lv_entry av (n := maxL) hn
  rw [lg_entry_eq]
  exact body p e s m below meth c _ B.exec B.bytes B.returns B.notSynchronized hml (findClass_of_methodNamed B.named) (atoms_spec (ws := wy) B.pre) hl hX
set_option maxHeartbeats 4000000 in
set_option maxRecDepth 100000 in
theorem metL_cell (l : Launch) {b L : Nat} {xs : Nat → Int32} (hL : L ≤ 260) (k : Nat) (hk : k < 2 ^ 31) : Met l yL_cell wsL_cell ({ frames := 0, cells := 0, slots := 0, locals := 0 }) (pcS b L xs [.ref b, .int (nI k)]) (vp_Si (fun _ => True)) 0 0 (fun _ => False) := by
  refine ofS (cc := cL_cell) (maxL := 2) (ret := some .int) (by decide) rfl (Nat.le_of_ble_eq_true rfl) ?_
  intro p e s m below meth c ls hx hb hr hlocks hml hown hts hl hX
  have hown : s.vm.findClass RL = some m.cls := hown
  have hl : lv_has ls 2 [(0, .ref b), (1, .int (nI k))] := hl
  have hbl : b < s.heap.size := by obtain ⟨scr, h1, -⟩ := hX; exact (Array.getElem?_eq_some_iff.mp h1).1
  have hS : va_S (fun _ => False) s.heap s.heap [] := va_S.rf
  refine lv_iload_n hx hb dL_cell_0 rfl (lv_at hl 1 rfl) ?_
  refine lv_aload_n hx hb dL_cell_1 rfl (lv_at hl 0 rfl) ?_
  refine va_slen hx hb hX hbl (fun q => q) hS dL_cell_2 ?_
  refine lv_icmp_ge (tgt := 12) hx hb dL_cell_3 (by decide) (fun c3 => ?_) (fun c3 => ?_)
  · refine lv_ldc (v := 1831816083) hx hb hown (hts (.constant RL 7 (1831816083)) (List.mem_of_getElem? (i := 1) rfl)) dL_cell_12 ?_
    refine lv_iload_n hx hb dL_cell_14 rfl (lv_at hl 1 rfl) ?_
    refine lv_iconst (v := 1) hx hb dL_cell_15 (by decide) ?_
    refine lv_iadd hx hb dL_cell_16 ?_
    refine lv_imul hx hb dL_cell_17 ?_
    exact W.iret (v := 1831816083 * (nI k + 1)) hx hb hr (fun t ht hW => ⟨_, rfl, trivial, ht⟩) (fun _ h => absurd h List.not_mem_nil) dL_cell_18
  · have c4 : ¬ nI L ≤ nI k := c3
    have hkL : k < L := Nat.lt_of_not_le (fun q => c4 ((nI_leI (by omega) hk).mpr q))
    refine lv_aload_n hx hb dL_cell_6 rfl (lv_at hl 0 rfl) ?_
    refine lv_iload_n hx hb dL_cell_7 rfl (lv_at hl 1 rfl) ?_
    refine va_sld hx hb hX hbl (fun q => q) hS (vp_in_nI hkL (by omega)) dL_cell_8 ?_
    refine lv_goto (tgt := 18) hx hb dL_cell_9 (by decide) ?_
    exact W.iret (v := xs (nI k).toNatClampNeg) hx hb hr (fun t ht hW => ⟨_, rfl, trivial, ht⟩) (fun _ h => absurd h List.not_mem_nil) dL_cell_18
set_option maxHeartbeats 4000000 in
set_option maxRecDepth 100000 in
theorem metL_at (l : Launch) (a N : Nat) (ha : a < 2 ^ 31) (h0 : 0 < N) (hN : N < 2 ^ 31) : Met l yL_at wsL_at ({ frames := 0, cells := 0, slots := 0, locals := 0 }) (pc0 [.int (nI a), .int (nI N)]) (vp_Si (fun r => ∃ k, k < N ∧ r = nI k)) 0 0 (fun _ => False) := by
  refine of0 (cc := cL_at) (maxL := 2) (ret := some .int) (by decide) rfl (Nat.le_of_ble_eq_true rfl) ?_
  intro p e s m below meth c ls hx hb hr hlocks hml hown hts hl
  have hl : lv_has ls 2 [(0, .int (nI a)), (1, .int (nI N))] := hl
  refine lv_iload_n hx hb dL_at_0 rfl (lv_at hl 0 rfl) ?_
  refine lv_iconst (v := 1) hx hb dL_at_1 (by decide) ?_
  refine lv_iushr hx hb dL_at_2 (pk_ushrN (by omega) 1 1 (by decide +kernel)) ?_
  refine lv_iload_n hx hb dL_at_3 rfl (lv_at hl 1 rfl) ?_
  refine lv_irem hx hb dL_at_4 (nI_ne0 h0 hN) ?_
  refine re_i (pk_rem (a := a / 2 ^ 1) (d := N) (by omega) h0 hN) ?_
  exact W.iret (v := nI (a / 2 ^ 1 % N)) hx hb hr (fun t ht hW => ⟨_, rfl, ⟨_, Nat.mod_lt _ h0, rfl⟩, ht⟩) (fun _ h => absurd h List.not_mem_nil) dL_at_5
theorem cOf2 {cur du : Int32} {wi dm : Int64} {wm : Nat → Int32} (h : du = 0) : cOf cur du wi dm wm 2 = 0 := by
  unfold cOf
  rw [if_neg (by decide), if_neg (by decide), if_pos rfl, if_pos h]
theorem cOf3 {cur du : Int32} {wi dm : Int64} {wm : Nat → Int32} : cOf cur du wi dm wm 3 = wi := by
  unfold cOf
  rw [if_neg (by decide), if_neg (by decide), if_neg (by decide), if_pos rfl]
theorem cOf4 {cur du : Int32} {wi dm : Int64} {wm : Nat → Int32} : cOf cur du wi dm wm 4 = dm := by
  unfold cOf
  rw [if_neg (by decide), if_neg (by decide), if_neg (by decide), if_neg (by decide), if_pos rfl]
theorem cOf5 {cur du : Int32} {wi dm : Int64} {wm : Nat → Int32} : cOf cur du wi dm wm 5 = cSto cur := by
  unfold cOf
  rw [if_neg (by decide), if_neg (by decide), if_neg (by decide), if_neg (by decide), if_neg (by decide)]
theorem sh_h : ∀ h : Nat, h < 10 → ((nI h &&& 31).toBitVec.smod 32).toNat = h := by decide +kernel
theorem cw_17 : Cond.constant RL 17 (2147483647) ∈ lw_tbl := by decide +kernel
theorem cw_55 : Cond.constant RL 55 (60001) ∈ lw_tbl := by decide +kernel
theorem cw_33 : Cond.constantLong RL 33 (50) ∈ lw_tbl := by decide +kernel
