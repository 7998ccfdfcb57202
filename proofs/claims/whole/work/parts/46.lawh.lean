/-- behind a helper of the law: refused, and the world as it was; or answered, and what was answered -/
def mid (cd : Int32) (ws : va_W) (Ok : va_W → Prop) (k : Int32) (w : va_W) : Prop := (¬ cd = 0 ∧ k = cd ∧ w = ws) ∨ (cd = 0 ∧ k = 0 ∧ Ok w)
def okI {U : Type} (post : Int32 → U → Prop) (Wf : U → va_W) (po oj : Nat) (cJ : ClassId) (w : va_W) : Prop := ∃ (r : Int32) (u : U) (f : Nat → Int64), post r u ∧ (Wf u)[po]? = some (oj, .inl (cJ, 1, .inr (.inl f))) ∧ w = (Wf u).set po (oj, .inl (cJ, 1, .inr (.inl (vp_updL f (0 : Int32).toNatClampNeg r.toInt64))))
def okL {U : Type} (post : Int64 → U → Prop) (Wf : U → va_W) (po oj : Nat) (cJ : ClassId) (w : va_W) : Prop := ∃ (r : Int64) (u : U) (f : Nat → Int64), post r u ∧ (Wf u)[po]? = some (oj, .inl (cJ, 1, .inr (.inl f))) ∧ w = (Wf u).set po (oj, .inl (cJ, 1, .inr (.inl (vp_updL f (0 : Int32).toNatClampNeg r))))
def okD {U : Type} (post : UInt64 → U → Prop) (Wf : U → va_W) (po oj : Nat) (cB : ClassId) (w : va_W) : Prop := ∃ (r : UInt64) (u : U) (f : Nat → UInt64), post r u ∧ (Wf u)[po]? = some (oj, .inl (cB, 1, .inr (.inr (.inr (.inl f))))) ∧ w = (Wf u).set po (oj, .inl (cB, 1, .inr (.inr (.inr (.inl (vf_upd f (0 : Int32).toNatClampNeg r))))))
def okV {U : Type} (post : U → Prop) (Wf : U → va_W) (w : va_W) : Prop := ∃ (u : U), post u ∧ w = Wf u
theorem env_cast {args : Array Value} {s : State} {A : Nat → Prop} {tE mi : Nat} {H : Heap} {w : Cond} (hE : env A tE mi s H) (hw : w ∈ envW) : w.before args s = true := (hE.2.2.2.2.2.2.2.2.2.1 w hw).use (envW_on w hw)
theorem env_nc {s : State} {A : Nat → Prop} {tE mi : Nat} {H : Heap} {E C : String} (hE : env A tE mi s H) (hw : (E, C) ∈ envN) : va_Nc E C s := hE.2.2.2.2.2.2.2.2.2.2 (E, C) hw
theorem in01 : vp_in (0 : Int32) 1 := by
  show ¬ ((0 : Int32) < 0 ∨ (1 : Nat) ≤ (0 : Int32).toNatClampNeg)
  decide

set_option maxHeartbeats 4000000 in
set_option maxRecDepth 100000 in
theorem metL_sample (l : Launch) (G : va_G) (tys : List (ClassId × FieldType)) {A : Nat → Prop} {tE mi : Nat} {cJ : ClassId} (htJ : tys[2]? = some (cJ, .long)) (ws : va_W) {pv v : Nat} {vs : List Value} (hv : ws[pv]? = some (v, .inr (8, vs))) {po oj : Nat} {U : Type} {cd : Int32} {post : Int32 → U → Prop} {Wf : U → va_W} {x y z : Int32} (hM : vx_Met l yX7_sample wsX7_sample { frames := 8, cells := 6, slots := 229, locals := 225 } (pcX G tys ws A tE mi [.ref v, .int x, .int y, .int z]) (va_Qi (fun (r : Int32) (u : U) => cd = 0 ∧ post r u) (fun u t => va_P G vwCl (Wf u) t.heap ∧ va_D A (Wf u)) A) (xcT (fun E => xC cd eIA eIS "" E)) 6 229 A) (hout : cd = 0 → ∀ r u, post r u → ∃ f, (Wf u)[po]? = some (oj, .inl (cJ, 1, .inr (.inl f)))) (n3 : ¬ cd = 3) : Met l yL_sample wsL_sample { frames := 9, cells := 6, slots := 229, locals := 248 } (pcX G tys ws A tE mi [.ref v, .int x, .int y, .int z, .ref oj]) (va_Qi (fun (r : Int32) (w : va_W) => mid cd ws (okI post Wf po oj cJ) r w) (fun w t => va_P G vwCl w t.heap ∧ va_D A w) A) 6 229 A := by
  refine ofL (cc := cL_sample) (maxL := 6) (ret := some .int) (hh := [(0, 12, 15, 13), (0, 12, 19, 15)]) (by decide) rfl (Nat.le_of_ble_eq_true rfl) ?_
  intro p e s m below meth c ls hx hb hr hlocks hml hown hts htab hl hP hK hD hA hS hE
  have hown : s.vm.findClass RL = some m.cls := hown
  have hl : lv_has ls 6 [(0, .ref v), (1, .int x), (2, .int y), (3, .int z), (4, .ref oj)] := hl
  refine lv_aload hx hb dL_sample_0 (lv_at hl 4 rfl) ?_
  refine lv_iconst (v := 0) hx hb dL_sample_2 (by decide) ?_
  refine lv_aload_n hx hb dL_sample_3 rfl (lv_at hl 0 rfl) ?_
  refine lv_iload_n hx hb dL_sample_4 rfl (lv_at hl 1 rfl) ?_
  refine lv_iload_n hx hb dL_sample_5 rfl (lv_at hl 2 rfl) ?_
  refine lv_iload_n hx hb dL_sample_6 rfl (lv_at hl 3 rfl) ?_
  refine vx_calli (vx_runV (As := [.int x, .int y, .int z]) (rest := [.int (0 : Int32), .ref oj]) ⟨hx, hb, hml, hown, hts⟩ hM (cwV 3 hts gL_sample_X7_sample rfl rfl rfl (by decide +kernel) ⟨Nat.le_of_ble_eq_true rfl, Nat.le_of_ble_eq_true rfl⟩) ⟨pcX_b, va_recv hK hP (ci := 8) (q0 := pv) rfl hv, pcX_u hP hK hD hS hA hE⟩ rfl rfl hl.1 rfl (lv_room (Nat.le_of_ble_eq_true rfl)) dL_sample_7 ⟨Nat.le_of_ble_eq_true rfl, Nat.le_of_ble_eq_true rfl⟩) hS (fun q _ h => h) (fun q h => h) (fun q _ h => h.elim) (fun E ce q9 u t H1 locs1 ht hvm _ hu hsz hk1 hS1 hce hcv hcl => ?_) (fun r u t H1 locs1 ht hvm k5 hB hsz hk1 hS1 => ?_)
  · have hP1 : va_P G vwCl ws H1 := hP.kept (fun k x hx => hk1 x.1 ((hP k x hx).lt) id)
    rcases hu with ⟨hcd, rfl⟩ | ⟨hcd, rfl⟩ | ⟨hcd, rfl⟩
    · refine vx_catch (own := RL) (name := "java/lang/IllegalArgumentException") hown [] ⟨0, 12, 15, 13⟩ [⟨0, 12, 19, 15⟩] htab (fun z hz => absurd hz List.not_mem_nil) rfl (by decide) (hts (.classLink RL 13 "java/lang/IllegalArgumentException") (List.mem_of_getElem? (i := 1) rfl)) (env_cast hE (by decide)) hce hcv hcl ?_
      refine lv_astore (lv' := [(5, .ref q9), (0, .ref v), (1, .int x), (2, .int y), (3, .int z), (4, .ref oj)]) hx hb dL_sample_15 hl (by decide) rfl (fun ls hl => ?_)
      refine lv_iconst (v := 1) hx hb dL_sample_17 (by decide) ?_
      refine W.widen (k := 6) (n := 229) (Nat.le_of_ble_eq_true rfl) (Nat.le_of_ble_eq_true rfl) ?_
      exact W.iret (v := 1) hx hb hr (fun t ht hW => ⟨⟨1, ws, rfl, Or.inl ⟨by rw [hcd]; decide, hcd.symm, rfl⟩, by show va_P G vwCl _ t.heap ∧ va_D A _; rw [ht]; exact ⟨hP1, hD⟩⟩, hS1.F ht⟩) hS1.2.2 dL_sample_18
    · refine vx_catch (own := RL) (name := "java/lang/IllegalStateException") hown [⟨0, 12, 15, 13⟩] ⟨0, 12, 19, 15⟩ [] htab (fun z hz => by rw [List.mem_singleton.mp hz]; exact Or.inr ⟨by decide, _, (hts (.classLink RL 13 "java/lang/IllegalArgumentException") (List.mem_of_getElem? (i := 1) rfl)), env_nc hE (by decide)⟩) rfl (by decide) (hts (.classLink RL 15 "java/lang/IllegalStateException") (List.mem_of_getElem? (i := 2) rfl)) (env_cast hE (by decide)) hce hcv hcl ?_
      refine lv_astore (lv' := [(5, .ref q9), (0, .ref v), (1, .int x), (2, .int y), (3, .int z), (4, .ref oj)]) hx hb dL_sample_19 hl (by decide) rfl (fun ls hl => ?_)
      refine lv_iconst (v := 2) hx hb dL_sample_21 (by decide) ?_
      refine W.widen (k := 6) (n := 229) (Nat.le_of_ble_eq_true rfl) (Nat.le_of_ble_eq_true rfl) ?_
      exact W.iret (v := 2) hx hb hr (fun t ht hW => ⟨⟨2, ws, rfl, Or.inl ⟨by rw [hcd]; decide, hcd.symm, rfl⟩, by show va_P G vwCl _ t.heap ∧ va_D A _; rw [ht]; exact ⟨hP1, hD⟩⟩, hS1.F ht⟩) hS1.2.2 dL_sample_22
    · exact absurd hcd n3
  · rw [ht] at hB
    obtain ⟨hP, hD⟩ := hB
    obtain ⟨hcd, k5⟩ := k5
    obtain ⟨f, ho⟩ := hout hcd r u k5
    refine lv_i2l hx hb dL_sample_10 rfl ?_
    refine va_last hx hb hK hP hD hS1 po 2 ho htJ in01 dL_sample_11 (fun H2 locs2 hP hD hS => ?_)
    refine lv_goto (tgt := 23) hx hb dL_sample_12 (by decide) ?_
    refine lv_iconst (v := 0) hx hb dL_sample_23 (by decide) ?_
    refine W.widen (k := 6) (n := 229) (Nat.le_of_ble_eq_true rfl) (Nat.le_of_ble_eq_true rfl) ?_
    exact W.iret (v := 0) hx hb hr (fun t ht hW => ⟨⟨0, _, rfl, Or.inr ⟨hcd, rfl, ⟨r, u, f, k5, ho, rfl⟩⟩, by show va_P G vwCl _ t.heap ∧ va_D A _; rw [ht]; exact ⟨hP, hD⟩⟩, hS.F ht⟩) hS.2.2 dL_sample_24
set_option maxHeartbeats 4000000 in
set_option maxRecDepth 100000 in
theorem metL_set (l : Launch) (G : va_G) (tys : List (ClassId × FieldType)) {A : Nat → Prop} {tE mi : Nat} {cJ : ClassId} (htJ : tys[2]? = some (cJ, .long)) (ws : va_W) {pv v : Nat} {vs : List Value} (hv : ws[pv]? = some (v, .inr (8, vs))) {po oj : Nat} {U : Type} {cd : Int32} {post : Int32 → U → Prop} {Wf : U → va_W} {x y z : Int32} (hM : vx_Met l yX7_set wsX7_set { frames := 7, cells := 3, slots := 18, locals := 104 } (pcX G tys ws A tE mi [.ref v, .int x, .int y, .int z]) (va_Qi (fun (r : Int32) (u : U) => cd = 0 ∧ post r u) (fun u t => va_P G vwCl (Wf u) t.heap ∧ va_D A (Wf u)) A) (xcT (fun E => xC cd eIB eIA "" E)) 3 18 A) (hout : cd = 0 → ∀ r u, post r u → ∃ f, (Wf u)[po]? = some (oj, .inl (cJ, 1, .inr (.inl f)))) (n3 : ¬ cd = 3) : Met l yL_set wsL_set { frames := 8, cells := 3, slots := 18, locals := 128 } (pcX G tys ws A tE mi [.ref v, .int x, .int y, .int z, .ref oj]) (va_Qi (fun (r : Int32) (w : va_W) => mid cd ws (okI post Wf po oj cJ) r w) (fun w t => va_P G vwCl w t.heap ∧ va_D A w) A) 3 18 A := by
  refine ofL (cc := cL_set) (maxL := 6) (ret := some .int) (hh := [(0, 12, 15, 20), (0, 12, 19, 13)]) (by decide) rfl (Nat.le_of_ble_eq_true rfl) ?_
  intro p e s m below meth c ls hx hb hr hlocks hml hown hts htab hl hP hK hD hA hS hE
  have hown : s.vm.findClass RL = some m.cls := hown
  have hl : lv_has ls 6 [(0, .ref v), (1, .int x), (2, .int y), (3, .int z), (4, .ref oj)] := hl
  refine lv_aload hx hb dL_set_0 (lv_at hl 4 rfl) ?_
  refine lv_iconst (v := 0) hx hb dL_set_2 (by decide) ?_
  refine lv_aload_n hx hb dL_set_3 rfl (lv_at hl 0 rfl) ?_
  refine lv_iload_n hx hb dL_set_4 rfl (lv_at hl 1 rfl) ?_
  refine lv_iload_n hx hb dL_set_5 rfl (lv_at hl 2 rfl) ?_
  refine lv_iload_n hx hb dL_set_6 rfl (lv_at hl 3 rfl) ?_
  refine vx_calli (vx_runV (As := [.int x, .int y, .int z]) (rest := [.int (0 : Int32), .ref oj]) ⟨hx, hb, hml, hown, hts⟩ hM (cwV 3 hts gL_set_X7_set rfl rfl rfl (by decide +kernel) ⟨Nat.le_of_ble_eq_true rfl, Nat.le_of_ble_eq_true rfl⟩) ⟨pcX_b, va_recv hK hP (ci := 8) (q0 := pv) rfl hv, pcX_u hP hK hD hS hA hE⟩ rfl rfl hl.1 rfl (lv_room (Nat.le_of_ble_eq_true rfl)) dL_set_7 ⟨Nat.le_of_ble_eq_true rfl, Nat.le_of_ble_eq_true rfl⟩) hS (fun q _ h => h) (fun q h => h) (fun q _ h => h.elim) (fun E ce q9 u t H1 locs1 ht hvm _ hu hsz hk1 hS1 hce hcv hcl => ?_) (fun r u t H1 locs1 ht hvm k5 hB hsz hk1 hS1 => ?_)
  · have hP1 : va_P G vwCl ws H1 := hP.kept (fun k x hx => hk1 x.1 ((hP k x hx).lt) id)
    rcases hu with ⟨hcd, rfl⟩ | ⟨hcd, rfl⟩ | ⟨hcd, rfl⟩
    · refine vx_catch (own := RL) (name := "java/lang/IndexOutOfBoundsException") hown [] ⟨0, 12, 15, 20⟩ [⟨0, 12, 19, 13⟩] htab (fun z hz => absurd hz List.not_mem_nil) rfl (by decide) (hts (.classLink RL 20 "java/lang/IndexOutOfBoundsException") (List.mem_of_getElem? (i := 1) rfl)) (env_cast hE (by decide)) hce hcv hcl ?_
      refine lv_astore (lv' := [(5, .ref q9), (0, .ref v), (1, .int x), (2, .int y), (3, .int z), (4, .ref oj)]) hx hb dL_set_15 hl (by decide) rfl (fun ls hl => ?_)
      refine lv_iconst (v := 1) hx hb dL_set_17 (by decide) ?_
      refine W.widen (k := 3) (n := 18) (Nat.le_of_ble_eq_true rfl) (Nat.le_of_ble_eq_true rfl) ?_
      exact W.iret (v := 1) hx hb hr (fun t ht hW => ⟨⟨1, ws, rfl, Or.inl ⟨by rw [hcd]; decide, hcd.symm, rfl⟩, by show va_P G vwCl _ t.heap ∧ va_D A _; rw [ht]; exact ⟨hP1, hD⟩⟩, hS1.F ht⟩) hS1.2.2 dL_set_18
    · refine vx_catch (own := RL) (name := "java/lang/IllegalArgumentException") hown [⟨0, 12, 15, 20⟩] ⟨0, 12, 19, 13⟩ [] htab (fun z hz => by rw [List.mem_singleton.mp hz]; exact Or.inr ⟨by decide, _, (hts (.classLink RL 20 "java/lang/IndexOutOfBoundsException") (List.mem_of_getElem? (i := 1) rfl)), env_nc hE (by decide)⟩) rfl (by decide) (hts (.classLink RL 13 "java/lang/IllegalArgumentException") (List.mem_of_getElem? (i := 2) rfl)) (env_cast hE (by decide)) hce hcv hcl ?_
      refine lv_astore (lv' := [(5, .ref q9), (0, .ref v), (1, .int x), (2, .int y), (3, .int z), (4, .ref oj)]) hx hb dL_set_19 hl (by decide) rfl (fun ls hl => ?_)
      refine lv_iconst (v := 2) hx hb dL_set_21 (by decide) ?_
      refine W.widen (k := 3) (n := 18) (Nat.le_of_ble_eq_true rfl) (Nat.le_of_ble_eq_true rfl) ?_
      exact W.iret (v := 2) hx hb hr (fun t ht hW => ⟨⟨2, ws, rfl, Or.inl ⟨by rw [hcd]; decide, hcd.symm, rfl⟩, by show va_P G vwCl _ t.heap ∧ va_D A _; rw [ht]; exact ⟨hP1, hD⟩⟩, hS1.F ht⟩) hS1.2.2 dL_set_22
    · exact absurd hcd n3
  · rw [ht] at hB
    obtain ⟨hP, hD⟩ := hB
    obtain ⟨hcd, k5⟩ := k5
    obtain ⟨f, ho⟩ := hout hcd r u k5
    refine lv_i2l hx hb dL_set_10 rfl ?_
    refine va_last hx hb hK hP hD hS1 po 2 ho htJ in01 dL_set_11 (fun H2 locs2 hP hD hS => ?_)
    refine lv_goto (tgt := 23) hx hb dL_set_12 (by decide) ?_
    refine lv_iconst (v := 0) hx hb dL_set_23 (by decide) ?_
    refine W.widen (k := 3) (n := 18) (Nat.le_of_ble_eq_true rfl) (Nat.le_of_ble_eq_true rfl) ?_
    exact W.iret (v := 0) hx hb hr (fun t ht hW => ⟨⟨0, _, rfl, Or.inr ⟨hcd, rfl, ⟨r, u, f, k5, ho, rfl⟩⟩, by show va_P G vwCl _ t.heap ∧ va_D A _; rw [ht]; exact ⟨hP, hD⟩⟩, hS.F ht⟩) hS.2.2 dL_set_24
set_option maxHeartbeats 4000000 in
set_option maxRecDepth 100000 in
theorem metL_deep (l : Launch) (G : va_G) (tys : List (ClassId × FieldType)) {A : Nat → Prop} {tE mi : Nat} {cB : ClassId} (htB : tys[3]? = some (cB, .double)) (ws : va_W) {pv v : Nat} {vs : List Value} (hv : ws[pv]? = some (v, .inr (8, vs))) {po oj : Nat} {U : Type} {cd : Int32} {post : UInt64 → U → Prop} {Wf : U → va_W} {x : Int32} (hM : vx_Met l yX7_deep wsX7_deep { frames := 7, cells := 1, slots := 6, locals := 103 } (pcX G tys ws A tE mi [.ref v, .int x]) (va_Qd (fun (r : UInt64) (u : U) => cd = 0 ∧ post r u) (fun u t => va_P G vwCl (Wf u) t.heap ∧ va_D A (Wf u)) A) (xcT (fun E => xC cd eIB "" "" E)) 1 6 A) (hout : cd = 0 → ∀ r u, post r u → ∃ f, (Wf u)[po]? = some (oj, .inl (cB, 1, .inr (.inr (.inr (.inl f)))))) (n2 : ¬ cd = 2) (n3 : ¬ cd = 3) : Met l yL_deep wsL_deep { frames := 8, cells := 1, slots := 6, locals := 124 } (pcX G tys ws A tE mi [.ref v, .int x, .ref oj]) (va_Qi (fun (r : Int32) (w : va_W) => mid cd ws (okD post Wf po oj cB) r w) (fun w t => va_P G vwCl w t.heap ∧ va_D A w) A) 1 6 A := by
  refine ofL (cc := cL_deep) (maxL := 4) (ret := some .int) (hh := [(0, 8, 11, 20)]) (by decide) rfl (Nat.le_of_ble_eq_true rfl) ?_
  intro p e s m below meth c ls hx hb hr hlocks hml hown hts htab hl hP hK hD hA hS hE
  have hown : s.vm.findClass RL = some m.cls := hown
  have hl : lv_has ls 4 [(0, .ref v), (1, .int x), (2, .ref oj)] := hl
  refine lv_aload_n hx hb dL_deep_0 rfl (lv_at hl 2 rfl) ?_
  refine lv_iconst (v := 0) hx hb dL_deep_1 (by decide) ?_
  refine lv_aload_n hx hb dL_deep_2 rfl (lv_at hl 0 rfl) ?_
  refine lv_iload_n hx hb dL_deep_3 rfl (lv_at hl 1 rfl) ?_
  refine vx_calld (vx_runV (As := [.int x]) (rest := [.int (0 : Int32), .ref oj]) ⟨hx, hb, hml, hown, hts⟩ hM (cwV 1 hts gL_deep_X7_deep rfl rfl rfl (by decide +kernel) ⟨Nat.le_of_ble_eq_true rfl, Nat.le_of_ble_eq_true rfl⟩) ⟨pcX_b, va_recv hK hP (ci := 8) (q0 := pv) rfl hv, pcX_u hP hK hD hS hA hE⟩ rfl rfl hl.1 rfl (lv_room (Nat.le_of_ble_eq_true rfl)) dL_deep_4 ⟨Nat.le_of_ble_eq_true rfl, Nat.le_of_ble_eq_true rfl⟩) hS (fun q _ h => h) (fun q h => h) (fun q _ h => h.elim) (fun E ce q9 u t H1 locs1 ht hvm _ hu hsz hk1 hS1 hce hcv hcl => ?_) (fun r u t H1 locs1 ht hvm k5 hB hsz hk1 hS1 => ?_)
  · have hP1 : va_P G vwCl ws H1 := hP.kept (fun k x hx => hk1 x.1 ((hP k x hx).lt) id)
    rcases hu with ⟨hcd, rfl⟩ | ⟨hcd, rfl⟩ | ⟨hcd, rfl⟩
    · refine vx_catch (own := RL) (name := "java/lang/IndexOutOfBoundsException") hown [] ⟨0, 8, 11, 20⟩ [] htab (fun z hz => absurd hz List.not_mem_nil) rfl (by decide) (hts (.classLink RL 20 "java/lang/IndexOutOfBoundsException") (List.mem_of_getElem? (i := 1) rfl)) (env_cast hE (by decide)) hce hcv hcl ?_
      refine lv_astore_n (lv' := [(3, .ref q9), (0, .ref v), (1, .int x), (2, .ref oj)]) hx hb dL_deep_11 rfl hl (by decide) rfl (fun ls hl => ?_)
      refine lv_iconst (v := 1) hx hb dL_deep_12 (by decide) ?_
      refine W.widen (k := 1) (n := 6) (Nat.le_of_ble_eq_true rfl) (Nat.le_of_ble_eq_true rfl) ?_
      exact W.iret (v := 1) hx hb hr (fun t ht hW => ⟨⟨1, ws, rfl, Or.inl ⟨by rw [hcd]; decide, hcd.symm, rfl⟩, by show va_P G vwCl _ t.heap ∧ va_D A _; rw [ht]; exact ⟨hP1, hD⟩⟩, hS1.F ht⟩) hS1.2.2 dL_deep_13
    · exact absurd hcd n2
    · exact absurd hcd n3
  · rw [ht] at hB
    obtain ⟨hP, hD⟩ := hB
    obtain ⟨hcd, k5⟩ := k5
    obtain ⟨f, ho⟩ := hout hcd r u k5
    refine va_dast hx hb hK hP hD hS1 po 3 ho htB in01 dL_deep_7 (fun H2 locs2 hP hD hS => ?_)
    refine lv_goto (tgt := 14) hx hb dL_deep_8 (by decide) ?_
    refine lv_iconst (v := 0) hx hb dL_deep_14 (by decide) ?_
    refine W.widen (k := 1) (n := 6) (Nat.le_of_ble_eq_true rfl) (Nat.le_of_ble_eq_true rfl) ?_
    exact W.iret (v := 0) hx hb hr (fun t ht hW => ⟨⟨0, _, rfl, Or.inr ⟨hcd, rfl, ⟨r, u, f, k5, ho, rfl⟩⟩, by show va_P G vwCl _ t.heap ∧ va_D A _; rw [ht]; exact ⟨hP, hD⟩⟩, hS.F ht⟩) hS.2.2 dL_deep_15
set_option maxHeartbeats 4000000 in
set_option maxRecDepth 100000 in
theorem metL_pin (l : Launch) (G : va_G) (tys : List (ClassId × FieldType)) {A : Nat → Prop} {tE mi : Nat} {cJ : ClassId} (htJ : tys[2]? = some (cJ, .long)) (ws : va_W) {pv v : Nat} {vs : List Value} (hv : ws[pv]? = some (v, .inr (8, vs))) {po oj : Nat} {U : Type} {cd : Int32} {post : Int32 → U → Prop} {Wf : U → va_W} {x y : Int32} (hM : vx_Met l yX7_pin wsX7_pin { frames := 7, cells := 2, slots := 12, locals := 104 } (pcX G tys ws A tE mi [.ref v, .int x, .int y]) (va_Qi (fun (r : Int32) (u : U) => cd = 0 ∧ post r u) (fun u t => va_P G vwCl (Wf u) t.heap ∧ va_D A (Wf u)) A) (xcT (fun E => xC cd eIB eIA "" E)) 2 12 A) (hout : cd = 0 → ∀ r u, post r u → ∃ f, (Wf u)[po]? = some (oj, .inl (cJ, 1, .inr (.inl f)))) (n3 : ¬ cd = 3) : Met l yL_pin wsL_pin { frames := 8, cells := 2, slots := 12, locals := 127 } (pcX G tys ws A tE mi [.ref v, .int x, .int y, .ref oj]) (va_Qi (fun (r : Int32) (w : va_W) => mid cd ws (okI post Wf po oj cJ) r w) (fun w t => va_P G vwCl w t.heap ∧ va_D A w) A) 2 12 A := by
  refine ofL (cc := cL_pin) (maxL := 5) (ret := some .int) (hh := [(0, 10, 13, 20), (0, 10, 17, 13)]) (by decide) rfl (Nat.le_of_ble_eq_true rfl) ?_
  intro p e s m below meth c ls hx hb hr hlocks hml hown hts htab hl hP hK hD hA hS hE
  have hown : s.vm.findClass RL = some m.cls := hown
  have hl : lv_has ls 5 [(0, .ref v), (1, .int x), (2, .int y), (3, .ref oj)] := hl
  refine lv_aload_n hx hb dL_pin_0 rfl (lv_at hl 3 rfl) ?_
  refine lv_iconst (v := 0) hx hb dL_pin_1 (by decide) ?_
  refine lv_aload_n hx hb dL_pin_2 rfl (lv_at hl 0 rfl) ?_
  refine lv_iload_n hx hb dL_pin_3 rfl (lv_at hl 1 rfl) ?_
  refine lv_iload_n hx hb dL_pin_4 rfl (lv_at hl 2 rfl) ?_
  refine vx_calli (vx_runV (As := [.int x, .int y]) (rest := [.int (0 : Int32), .ref oj]) ⟨hx, hb, hml, hown, hts⟩ hM (cwV 2 hts gL_pin_X7_pin rfl rfl rfl (by decide +kernel) ⟨Nat.le_of_ble_eq_true rfl, Nat.le_of_ble_eq_true rfl⟩) ⟨pcX_b, va_recv hK hP (ci := 8) (q0 := pv) rfl hv, pcX_u hP hK hD hS hA hE⟩ rfl rfl hl.1 rfl (lv_room (Nat.le_of_ble_eq_true rfl)) dL_pin_5 ⟨Nat.le_of_ble_eq_true rfl, Nat.le_of_ble_eq_true rfl⟩) hS (fun q _ h => h) (fun q h => h) (fun q _ h => h.elim) (fun E ce q9 u t H1 locs1 ht hvm _ hu hsz hk1 hS1 hce hcv hcl => ?_) (fun r u t H1 locs1 ht hvm k5 hB hsz hk1 hS1 => ?_)
  · have hP1 : va_P G vwCl ws H1 := hP.kept (fun k x hx => hk1 x.1 ((hP k x hx).lt) id)
    rcases hu with ⟨hcd, rfl⟩ | ⟨hcd, rfl⟩ | ⟨hcd, rfl⟩
    · refine vx_catch (own := RL) (name := "java/lang/IndexOutOfBoundsException") hown [] ⟨0, 10, 13, 20⟩ [⟨0, 10, 17, 13⟩] htab (fun z hz => absurd hz List.not_mem_nil) rfl (by decide) (hts (.classLink RL 20 "java/lang/IndexOutOfBoundsException") (List.mem_of_getElem? (i := 1) rfl)) (env_cast hE (by decide)) hce hcv hcl ?_
      refine lv_astore (lv' := [(4, .ref q9), (0, .ref v), (1, .int x), (2, .int y), (3, .ref oj)]) hx hb dL_pin_13 hl (by decide) rfl (fun ls hl => ?_)
      refine lv_iconst (v := 1) hx hb dL_pin_15 (by decide) ?_
      refine W.widen (k := 2) (n := 12) (Nat.le_of_ble_eq_true rfl) (Nat.le_of_ble_eq_true rfl) ?_
      exact W.iret (v := 1) hx hb hr (fun t ht hW => ⟨⟨1, ws, rfl, Or.inl ⟨by rw [hcd]; decide, hcd.symm, rfl⟩, by show va_P G vwCl _ t.heap ∧ va_D A _; rw [ht]; exact ⟨hP1, hD⟩⟩, hS1.F ht⟩) hS1.2.2 dL_pin_16
    · refine vx_catch (own := RL) (name := "java/lang/IllegalArgumentException") hown [⟨0, 10, 13, 20⟩] ⟨0, 10, 17, 13⟩ [] htab (fun z hz => by rw [List.mem_singleton.mp hz]; exact Or.inr ⟨by decide, _, (hts (.classLink RL 20 "java/lang/IndexOutOfBoundsException") (List.mem_of_getElem? (i := 1) rfl)), env_nc hE (by decide)⟩) rfl (by decide) (hts (.classLink RL 13 "java/lang/IllegalArgumentException") (List.mem_of_getElem? (i := 2) rfl)) (env_cast hE (by decide)) hce hcv hcl ?_
      refine lv_astore (lv' := [(4, .ref q9), (0, .ref v), (1, .int x), (2, .int y), (3, .ref oj)]) hx hb dL_pin_17 hl (by decide) rfl (fun ls hl => ?_)
      refine lv_iconst (v := 2) hx hb dL_pin_19 (by decide) ?_
      refine W.widen (k := 2) (n := 12) (Nat.le_of_ble_eq_true rfl) (Nat.le_of_ble_eq_true rfl) ?_
      exact W.iret (v := 2) hx hb hr (fun t ht hW => ⟨⟨2, ws, rfl, Or.inl ⟨by rw [hcd]; decide, hcd.symm, rfl⟩, by show va_P G vwCl _ t.heap ∧ va_D A _; rw [ht]; exact ⟨hP1, hD⟩⟩, hS1.F ht⟩) hS1.2.2 dL_pin_20
    · exact absurd hcd n3
  · rw [ht] at hB
    obtain ⟨hP, hD⟩ := hB
    obtain ⟨hcd, k5⟩ := k5
    obtain ⟨f, ho⟩ := hout hcd r u k5
    refine lv_i2l hx hb dL_pin_8 rfl ?_
    refine va_last hx hb hK hP hD hS1 po 2 ho htJ in01 dL_pin_9 (fun H2 locs2 hP hD hS => ?_)
    refine lv_goto (tgt := 21) hx hb dL_pin_10 (by decide) ?_
    refine lv_iconst (v := 0) hx hb dL_pin_21 (by decide) ?_
    refine W.widen (k := 2) (n := 12) (Nat.le_of_ble_eq_true rfl) (Nat.le_of_ble_eq_true rfl) ?_
    exact W.iret (v := 0) hx hb hr (fun t ht hW => ⟨⟨0, _, rfl, Or.inr ⟨hcd, rfl, ⟨r, u, f, k5, ho, rfl⟩⟩, by show va_P G vwCl _ t.heap ∧ va_D A _; rw [ht]; exact ⟨hP, hD⟩⟩, hS.F ht⟩) hS.2.2 dL_pin_22
set_option maxHeartbeats 4000000 in
set_option maxRecDepth 100000 in
theorem metL_drive (l : Launch) (G : va_G) (tys : List (ClassId × FieldType)) {A : Nat → Prop} {tE mi : Nat} (ws : va_W) {pv v : Nat} {vs : List Value} (hv : ws[pv]? = some (v, .inr (8, vs))) {U : Type} {cd : Int32} {post : U → Prop} {Wf : U → va_W} {x y : Int32} (hM : vx_Met l yX7_drive wsX7_drive { frames := 7, cells := 2, slots := 12, locals := 104 } (pcX G tys ws A tE mi [.ref v, .int x, .int y]) (va_Qv (fun (u : U) => cd = 0 ∧ post u) (fun u t => va_P G vwCl (Wf u) t.heap ∧ va_D A (Wf u)) A) (xcT (fun E => xC cd eIA "" "" E)) 2 12 A) (n2 : ¬ cd = 2) (n3 : ¬ cd = 3) : Met l yL_drive wsL_drive { frames := 8, cells := 2, slots := 12, locals := 126 } (pcX G tys ws A tE mi [.ref v, .int x, .int y]) (va_Qi (fun (r : Int32) (w : va_W) => mid cd ws (okV post Wf) r w) (fun w t => va_P G vwCl w t.heap ∧ va_D A w) A) 2 12 A := by
  refine ofL (cc := cL_drive) (maxL := 4) (ret := some .int) (hh := [(0, 6, 9, 13)]) (by decide) rfl (Nat.le_of_ble_eq_true rfl) ?_
  intro p e s m below meth c ls hx hb hr hlocks hml hown hts htab hl hP hK hD hA hS hE
  have hown : s.vm.findClass RL = some m.cls := hown
  have hl : lv_has ls 4 [(0, .ref v), (1, .int x), (2, .int y)] := hl
  refine lv_aload_n hx hb dL_drive_0 rfl (lv_at hl 0 rfl) ?_
  refine lv_iload_n hx hb dL_drive_1 rfl (lv_at hl 1 rfl) ?_
  refine lv_iload_n hx hb dL_drive_2 rfl (lv_at hl 2 rfl) ?_
  refine vx_callv (vx_runV (As := [.int x, .int y]) (rest := []) ⟨hx, hb, hml, hown, hts⟩ hM (cwV 2 hts gL_drive_X7_drive rfl rfl rfl (by decide +kernel) ⟨Nat.le_of_ble_eq_true rfl, Nat.le_of_ble_eq_true rfl⟩) ⟨pcX_b, va_recv hK hP (ci := 8) (q0 := pv) rfl hv, pcX_u hP hK hD hS hA hE⟩ rfl rfl hl.1 rfl (lv_room (Nat.le_of_ble_eq_true rfl)) dL_drive_3 ⟨Nat.le_of_ble_eq_true rfl, Nat.le_of_ble_eq_true rfl⟩) hS (fun q _ h => h) (fun q h => h) (fun q _ h => h.elim) (fun E ce q9 u t H1 locs1 ht hvm _ hu hsz hk1 hS1 hce hcv hcl => ?_) (fun u t H1 locs1 ht hvm k5 hB hsz hk1 hS1 => ?_)
  · have hP1 : va_P G vwCl ws H1 := hP.kept (fun k x hx => hk1 x.1 ((hP k x hx).lt) id)
    rcases hu with ⟨hcd, rfl⟩ | ⟨hcd, rfl⟩ | ⟨hcd, rfl⟩
    · refine vx_catch (own := RL) (name := "java/lang/IllegalArgumentException") hown [] ⟨0, 6, 9, 13⟩ [] htab (fun z hz => absurd hz List.not_mem_nil) rfl (by decide) (hts (.classLink RL 13 "java/lang/IllegalArgumentException") (List.mem_of_getElem? (i := 1) rfl)) (env_cast hE (by decide)) hce hcv hcl ?_
      refine lv_astore_n (lv' := [(3, .ref q9), (0, .ref v), (1, .int x), (2, .int y)]) hx hb dL_drive_9 rfl hl (by decide) rfl (fun ls hl => ?_)
      refine lv_iconst (v := 1) hx hb dL_drive_10 (by decide) ?_
      refine W.widen (k := 2) (n := 12) (Nat.le_of_ble_eq_true rfl) (Nat.le_of_ble_eq_true rfl) ?_
      exact W.iret (v := 1) hx hb hr (fun t ht hW => ⟨⟨1, ws, rfl, Or.inl ⟨by rw [hcd]; decide, hcd.symm, rfl⟩, by show va_P G vwCl _ t.heap ∧ va_D A _; rw [ht]; exact ⟨hP1, hD⟩⟩, hS1.F ht⟩) hS1.2.2 dL_drive_11
    · exact absurd hcd n2
    · exact absurd hcd n3
  · rw [ht] at hB
    obtain ⟨hP, hD⟩ := hB
    obtain ⟨hcd, k5⟩ := k5
    have hS := hS1
    refine lv_goto (tgt := 12) hx hb dL_drive_6 (by decide) ?_
    refine lv_iconst (v := 0) hx hb dL_drive_12 (by decide) ?_
    refine W.widen (k := 2) (n := 12) (Nat.le_of_ble_eq_true rfl) (Nat.le_of_ble_eq_true rfl) ?_
    exact W.iret (v := 0) hx hb hr (fun t ht hW => ⟨⟨0, _, rfl, Or.inr ⟨hcd, rfl, ⟨u, k5, rfl⟩⟩, by show va_P G vwCl _ t.heap ∧ va_D A _; rw [ht]; exact ⟨hP, hD⟩⟩, hS.F ht⟩) hS.2.2 dL_drive_13
set_option maxHeartbeats 4000000 in
set_option maxRecDepth 100000 in
theorem metL_enter (l : Launch) (G : va_G) (tys : List (ClassId × FieldType)) {A : Nat → Prop} {tE mi : Nat} {cJ : ClassId} (htJ : tys[2]? = some (cJ, .long)) (ws : va_W) {pv v : Nat} {vs : List Value} (hv : ws[pv]? = some (v, .inr (8, vs))) {po oj : Nat} {U : Type} {cd : Int32} {post : Int32 → U → Prop} {Wf : U → va_W} {x : Int32} (hM : vx_Met l yX7_enter wsX7_enter { frames := 7, cells := 2, slots := 12, locals := 104 } (pcX G tys ws A tE mi [.ref v, .int x]) (va_Qi (fun (r : Int32) (u : U) => cd = 0 ∧ post r u) (fun u t => va_P G vwCl (Wf u) t.heap ∧ va_D A (Wf u)) A) (xcT (fun E => xC cd eIA eIS "" E)) 2 12 A) (hout : cd = 0 → ∀ r u, post r u → ∃ f, (Wf u)[po]? = some (oj, .inl (cJ, 1, .inr (.inl f)))) (n3 : ¬ cd = 3) : Met l yL_enter wsL_enter { frames := 8, cells := 2, slots := 12, locals := 127 } (pcX G tys ws A tE mi [.ref v, .int x, .ref oj]) (va_Qi (fun (r : Int32) (w : va_W) => mid cd ws (okI post Wf po oj cJ) r w) (fun w t => va_P G vwCl w t.heap ∧ va_D A w) A) 2 12 A := by
  refine ofL (cc := cL_enter) (maxL := 4) (ret := some .int) (hh := [(0, 9, 12, 13), (0, 9, 15, 15)]) (by decide) rfl (Nat.le_of_ble_eq_true rfl) ?_
  intro p e s m below meth c ls hx hb hr hlocks hml hown hts htab hl hP hK hD hA hS hE
  have hown : s.vm.findClass RL = some m.cls := hown
  have hl : lv_has ls 4 [(0, .ref v), (1, .int x), (2, .ref oj)] := hl
  refine lv_aload_n hx hb dL_enter_0 rfl (lv_at hl 2 rfl) ?_
  refine lv_iconst (v := 0) hx hb dL_enter_1 (by decide) ?_
  refine lv_aload_n hx hb dL_enter_2 rfl (lv_at hl 0 rfl) ?_
  refine lv_iload_n hx hb dL_enter_3 rfl (lv_at hl 1 rfl) ?_
  refine vx_calli (vx_runV (As := [.int x]) (rest := [.int (0 : Int32), .ref oj]) ⟨hx, hb, hml, hown, hts⟩ hM (cwV 1 hts gL_enter_X7_enter rfl rfl rfl (by decide +kernel) ⟨Nat.le_of_ble_eq_true rfl, Nat.le_of_ble_eq_true rfl⟩) ⟨pcX_b, va_recv hK hP (ci := 8) (q0 := pv) rfl hv, pcX_u hP hK hD hS hA hE⟩ rfl rfl hl.1 rfl (lv_room (Nat.le_of_ble_eq_true rfl)) dL_enter_4 ⟨Nat.le_of_ble_eq_true rfl, Nat.le_of_ble_eq_true rfl⟩) hS (fun q _ h => h) (fun q h => h) (fun q _ h => h.elim) (fun E ce q9 u t H1 locs1 ht hvm _ hu hsz hk1 hS1 hce hcv hcl => ?_) (fun r u t H1 locs1 ht hvm k5 hB hsz hk1 hS1 => ?_)
  · have hP1 : va_P G vwCl ws H1 := hP.kept (fun k x hx => hk1 x.1 ((hP k x hx).lt) id)
    rcases hu with ⟨hcd, rfl⟩ | ⟨hcd, rfl⟩ | ⟨hcd, rfl⟩
    · refine vx_catch (own := RL) (name := "java/lang/IllegalArgumentException") hown [] ⟨0, 9, 12, 13⟩ [⟨0, 9, 15, 15⟩] htab (fun z hz => absurd hz List.not_mem_nil) rfl (by decide) (hts (.classLink RL 13 "java/lang/IllegalArgumentException") (List.mem_of_getElem? (i := 1) rfl)) (env_cast hE (by decide)) hce hcv hcl ?_
      refine lv_astore_n (lv' := [(3, .ref q9), (0, .ref v), (1, .int x), (2, .ref oj)]) hx hb dL_enter_12 rfl hl (by decide) rfl (fun ls hl => ?_)
      refine lv_iconst (v := 1) hx hb dL_enter_13 (by decide) ?_
      refine W.widen (k := 2) (n := 12) (Nat.le_of_ble_eq_true rfl) (Nat.le_of_ble_eq_true rfl) ?_
      exact W.iret (v := 1) hx hb hr (fun t ht hW => ⟨⟨1, ws, rfl, Or.inl ⟨by rw [hcd]; decide, hcd.symm, rfl⟩, by show va_P G vwCl _ t.heap ∧ va_D A _; rw [ht]; exact ⟨hP1, hD⟩⟩, hS1.F ht⟩) hS1.2.2 dL_enter_14
    · refine vx_catch (own := RL) (name := "java/lang/IllegalStateException") hown [⟨0, 9, 12, 13⟩] ⟨0, 9, 15, 15⟩ [] htab (fun z hz => by rw [List.mem_singleton.mp hz]; exact Or.inr ⟨by decide, _, (hts (.classLink RL 13 "java/lang/IllegalArgumentException") (List.mem_of_getElem? (i := 1) rfl)), env_nc hE (by decide)⟩) rfl (by decide) (hts (.classLink RL 15 "java/lang/IllegalStateException") (List.mem_of_getElem? (i := 2) rfl)) (env_cast hE (by decide)) hce hcv hcl ?_
      refine lv_astore_n (lv' := [(3, .ref q9), (0, .ref v), (1, .int x), (2, .ref oj)]) hx hb dL_enter_15 rfl hl (by decide) rfl (fun ls hl => ?_)
      refine lv_iconst (v := 2) hx hb dL_enter_16 (by decide) ?_
      refine W.widen (k := 2) (n := 12) (Nat.le_of_ble_eq_true rfl) (Nat.le_of_ble_eq_true rfl) ?_
      exact W.iret (v := 2) hx hb hr (fun t ht hW => ⟨⟨2, ws, rfl, Or.inl ⟨by rw [hcd]; decide, hcd.symm, rfl⟩, by show va_P G vwCl _ t.heap ∧ va_D A _; rw [ht]; exact ⟨hP1, hD⟩⟩, hS1.F ht⟩) hS1.2.2 dL_enter_17
    · exact absurd hcd n3
  · rw [ht] at hB
    obtain ⟨hP, hD⟩ := hB
    obtain ⟨hcd, k5⟩ := k5
    obtain ⟨f, ho⟩ := hout hcd r u k5
    refine lv_i2l hx hb dL_enter_7 rfl ?_
    refine va_last hx hb hK hP hD hS1 po 2 ho htJ in01 dL_enter_8 (fun H2 locs2 hP hD hS => ?_)
    refine lv_goto (tgt := 18) hx hb dL_enter_9 (by decide) ?_
    refine lv_iconst (v := 0) hx hb dL_enter_18 (by decide) ?_
    refine W.widen (k := 2) (n := 12) (Nat.le_of_ble_eq_true rfl) (Nat.le_of_ble_eq_true rfl) ?_
    exact W.iret (v := 0) hx hb hr (fun t ht hW => ⟨⟨0, _, rfl, Or.inr ⟨hcd, rfl, ⟨r, u, f, k5, ho, rfl⟩⟩, by show va_P G vwCl _ t.heap ∧ va_D A _; rw [ht]; exact ⟨hP, hD⟩⟩, hS.F ht⟩) hS.2.2 dL_enter_19
set_option maxHeartbeats 4000000 in
set_option maxRecDepth 100000 in
theorem metL_whirlAt (l : Launch) (G : va_G) (tys : List (ClassId × FieldType)) {A : Nat → Prop} {tE mi : Nat} {cJ : ClassId} (htJ : tys[2]? = some (cJ, .long)) (ws : va_W) {pv v : Nat} {vs : List Value} (hv : ws[pv]? = some (v, .inr (8, vs))) {po oj : Nat} {U : Type} {cd : Int32} {post : Int32 → U → Prop} {Wf : U → va_W} {x : Int32} (hM : vx_Met l yX7_whirlAt wsX7_whirlAt { frames := 7, cells := 1, slots := 6, locals := 103 } (pcX G tys ws A tE mi [.ref v, .int x]) (va_Qi (fun (r : Int32) (u : U) => cd = 0 ∧ post r u) (fun u t => va_P G vwCl (Wf u) t.heap ∧ va_D A (Wf u)) A) (xcT (fun E => xC cd eIB "" "" E)) 1 6 A) (hout : cd = 0 → ∀ r u, post r u → ∃ f, (Wf u)[po]? = some (oj, .inl (cJ, 1, .inr (.inl f)))) (n2 : ¬ cd = 2) (n3 : ¬ cd = 3) : Met l yL_whirlAt wsL_whirlAt { frames := 8, cells := 1, slots := 6, locals := 124 } (pcX G tys ws A tE mi [.ref v, .int x, .ref oj]) (va_Qi (fun (r : Int32) (w : va_W) => mid cd ws (okI post Wf po oj cJ) r w) (fun w t => va_P G vwCl w t.heap ∧ va_D A w) A) 1 6 A := by
  refine ofL (cc := cL_whirlAt) (maxL := 4) (ret := some .int) (hh := [(0, 9, 12, 20)]) (by decide) rfl (Nat.le_of_ble_eq_true rfl) ?_
  intro p e s m below meth c ls hx hb hr hlocks hml hown hts htab hl hP hK hD hA hS hE
  have hown : s.vm.findClass RL = some m.cls := hown
  have hl : lv_has ls 4 [(0, .ref v), (1, .int x), (2, .ref oj)] := hl
  refine lv_aload_n hx hb dL_whirlAt_0 rfl (lv_at hl 2 rfl) ?_
  refine lv_iconst (v := 0) hx hb dL_whirlAt_1 (by decide) ?_
  refine lv_aload_n hx hb dL_whirlAt_2 rfl (lv_at hl 0 rfl) ?_
  refine lv_iload_n hx hb dL_whirlAt_3 rfl (lv_at hl 1 rfl) ?_
  refine vx_calli (vx_runV (As := [.int x]) (rest := [.int (0 : Int32), .ref oj]) ⟨hx, hb, hml, hown, hts⟩ hM (cwV 1 hts gL_whirlAt_X7_whirlAt rfl rfl rfl (by decide +kernel) ⟨Nat.le_of_ble_eq_true rfl, Nat.le_of_ble_eq_true rfl⟩) ⟨pcX_b, va_recv hK hP (ci := 8) (q0 := pv) rfl hv, pcX_u hP hK hD hS hA hE⟩ rfl rfl hl.1 rfl (lv_room (Nat.le_of_ble_eq_true rfl)) dL_whirlAt_4 ⟨Nat.le_of_ble_eq_true rfl, Nat.le_of_ble_eq_true rfl⟩) hS (fun q _ h => h) (fun q h => h) (fun q _ h => h.elim) (fun E ce q9 u t H1 locs1 ht hvm _ hu hsz hk1 hS1 hce hcv hcl => ?_) (fun r u t H1 locs1 ht hvm k5 hB hsz hk1 hS1 => ?_)
  · have hP1 : va_P G vwCl ws H1 := hP.kept (fun k x hx => hk1 x.1 ((hP k x hx).lt) id)
    rcases hu with ⟨hcd, rfl⟩ | ⟨hcd, rfl⟩ | ⟨hcd, rfl⟩
    · refine vx_catch (own := RL) (name := "java/lang/IndexOutOfBoundsException") hown [] ⟨0, 9, 12, 20⟩ [] htab (fun z hz => absurd hz List.not_mem_nil) rfl (by decide) (hts (.classLink RL 20 "java/lang/IndexOutOfBoundsException") (List.mem_of_getElem? (i := 1) rfl)) (env_cast hE (by decide)) hce hcv hcl ?_
      refine lv_astore_n (lv' := [(3, .ref q9), (0, .ref v), (1, .int x), (2, .ref oj)]) hx hb dL_whirlAt_12 rfl hl (by decide) rfl (fun ls hl => ?_)
      refine lv_iconst (v := 1) hx hb dL_whirlAt_13 (by decide) ?_
      refine W.widen (k := 1) (n := 6) (Nat.le_of_ble_eq_true rfl) (Nat.le_of_ble_eq_true rfl) ?_
      exact W.iret (v := 1) hx hb hr (fun t ht hW => ⟨⟨1, ws, rfl, Or.inl ⟨by rw [hcd]; decide, hcd.symm, rfl⟩, by show va_P G vwCl _ t.heap ∧ va_D A _; rw [ht]; exact ⟨hP1, hD⟩⟩, hS1.F ht⟩) hS1.2.2 dL_whirlAt_14
    · exact absurd hcd n2
    · exact absurd hcd n3
  · rw [ht] at hB
    obtain ⟨hP, hD⟩ := hB
    obtain ⟨hcd, k5⟩ := k5
    obtain ⟨f, ho⟩ := hout hcd r u k5
    refine lv_i2l hx hb dL_whirlAt_7 rfl ?_
    refine va_last hx hb hK hP hD hS1 po 2 ho htJ in01 dL_whirlAt_8 (fun H2 locs2 hP hD hS => ?_)
    refine lv_goto (tgt := 15) hx hb dL_whirlAt_9 (by decide) ?_
    refine lv_iconst (v := 0) hx hb dL_whirlAt_15 (by decide) ?_
    refine W.widen (k := 1) (n := 6) (Nat.le_of_ble_eq_true rfl) (Nat.le_of_ble_eq_true rfl) ?_
    exact W.iret (v := 0) hx hb hr (fun t ht hW => ⟨⟨0, _, rfl, Or.inr ⟨hcd, rfl, ⟨r, u, f, k5, ho, rfl⟩⟩, by show va_P G vwCl _ t.heap ∧ va_D A _; rw [ht]; exact ⟨hP, hD⟩⟩, hS.F ht⟩) hS.2.2 dL_whirlAt_16
set_option maxHeartbeats 4000000 in
set_option maxRecDepth 100000 in
theorem metL_energy (l : Launch) (G : va_G) (tys : List (ClassId × FieldType)) {A : Nat → Prop} {tE mi : Nat} {cJ : ClassId} (htJ : tys[2]? = some (cJ, .long)) (ws : va_W) {pv v : Nat} {vs : List Value} (hv : ws[pv]? = some (v, .inr (8, vs))) {po oj : Nat} {U : Type} {cd : Int32} {post : Int32 → U → Prop} {Wf : U → va_W} {x : Int32} (hM : vx_Met l yX7_energy wsX7_energy { frames := 7, cells := 1, slots := 6, locals := 103 } (pcX G tys ws A tE mi [.ref v, .int x]) (va_Qi (fun (r : Int32) (u : U) => cd = 0 ∧ post r u) (fun u t => va_P G vwCl (Wf u) t.heap ∧ va_D A (Wf u)) A) (xcT (fun E => xC cd eIB "" "" E)) 1 6 A) (hout : cd = 0 → ∀ r u, post r u → ∃ f, (Wf u)[po]? = some (oj, .inl (cJ, 1, .inr (.inl f)))) (n2 : ¬ cd = 2) (n3 : ¬ cd = 3) : Met l yL_energy wsL_energy { frames := 8, cells := 1, slots := 6, locals := 125 } (pcX G tys ws A tE mi [.ref v, .int x, .ref oj]) (va_Qi (fun (r : Int32) (w : va_W) => mid cd ws (okI post Wf po oj cJ) r w) (fun w t => va_P G vwCl w t.heap ∧ va_D A w) A) 1 6 A := by
  refine ofL (cc := cL_energy) (maxL := 4) (ret := some .int) (hh := [(0, 9, 12, 20)]) (by decide) rfl (Nat.le_of_ble_eq_true rfl) ?_
  intro p e s m below meth c ls hx hb hr hlocks hml hown hts htab hl hP hK hD hA hS hE
  have hown : s.vm.findClass RL = some m.cls := hown
  have hl : lv_has ls 4 [(0, .ref v), (1, .int x), (2, .ref oj)] := hl
  refine lv_aload_n hx hb dL_energy_0 rfl (lv_at hl 2 rfl) ?_
  refine lv_iconst (v := 0) hx hb dL_energy_1 (by decide) ?_
  refine lv_aload_n hx hb dL_energy_2 rfl (lv_at hl 0 rfl) ?_
  refine lv_iload_n hx hb dL_energy_3 rfl (lv_at hl 1 rfl) ?_
  refine vx_calli (vx_runV (As := [.int x]) (rest := [.int (0 : Int32), .ref oj]) ⟨hx, hb, hml, hown, hts⟩ hM (cwV 1 hts gL_energy_X7_energy rfl rfl rfl (by decide +kernel) ⟨Nat.le_of_ble_eq_true rfl, Nat.le_of_ble_eq_true rfl⟩) ⟨pcX_b, va_recv hK hP (ci := 8) (q0 := pv) rfl hv, pcX_u hP hK hD hS hA hE⟩ rfl rfl hl.1 rfl (lv_room (Nat.le_of_ble_eq_true rfl)) dL_energy_4 ⟨Nat.le_of_ble_eq_true rfl, Nat.le_of_ble_eq_true rfl⟩) hS (fun q _ h => h) (fun q h => h) (fun q _ h => h.elim) (fun E ce q9 u t H1 locs1 ht hvm _ hu hsz hk1 hS1 hce hcv hcl => ?_) (fun r u t H1 locs1 ht hvm k5 hB hsz hk1 hS1 => ?_)
  · have hP1 : va_P G vwCl ws H1 := hP.kept (fun k x hx => hk1 x.1 ((hP k x hx).lt) id)
    rcases hu with ⟨hcd, rfl⟩ | ⟨hcd, rfl⟩ | ⟨hcd, rfl⟩
    · refine vx_catch (own := RL) (name := "java/lang/IndexOutOfBoundsException") hown [] ⟨0, 9, 12, 20⟩ [] htab (fun z hz => absurd hz List.not_mem_nil) rfl (by decide) (hts (.classLink RL 20 "java/lang/IndexOutOfBoundsException") (List.mem_of_getElem? (i := 1) rfl)) (env_cast hE (by decide)) hce hcv hcl ?_
      refine lv_astore_n (lv' := [(3, .ref q9), (0, .ref v), (1, .int x), (2, .ref oj)]) hx hb dL_energy_12 rfl hl (by decide) rfl (fun ls hl => ?_)
      refine lv_iconst (v := 1) hx hb dL_energy_13 (by decide) ?_
      refine W.widen (k := 1) (n := 6) (Nat.le_of_ble_eq_true rfl) (Nat.le_of_ble_eq_true rfl) ?_
      exact W.iret (v := 1) hx hb hr (fun t ht hW => ⟨⟨1, ws, rfl, Or.inl ⟨by rw [hcd]; decide, hcd.symm, rfl⟩, by show va_P G vwCl _ t.heap ∧ va_D A _; rw [ht]; exact ⟨hP1, hD⟩⟩, hS1.F ht⟩) hS1.2.2 dL_energy_14
    · exact absurd hcd n2
    · exact absurd hcd n3
  · rw [ht] at hB
    obtain ⟨hP, hD⟩ := hB
    obtain ⟨hcd, k5⟩ := k5
    obtain ⟨f, ho⟩ := hout hcd r u k5
    refine lv_i2l hx hb dL_energy_7 rfl ?_
    refine va_last hx hb hK hP hD hS1 po 2 ho htJ in01 dL_energy_8 (fun H2 locs2 hP hD hS => ?_)
    refine lv_goto (tgt := 15) hx hb dL_energy_9 (by decide) ?_
    refine lv_iconst (v := 0) hx hb dL_energy_15 (by decide) ?_
    refine W.widen (k := 1) (n := 6) (Nat.le_of_ble_eq_true rfl) (Nat.le_of_ble_eq_true rfl) ?_
    exact W.iret (v := 0) hx hb hr (fun t ht hW => ⟨⟨0, _, rfl, Or.inr ⟨hcd, rfl, ⟨r, u, f, k5, ho, rfl⟩⟩, by show va_P G vwCl _ t.heap ∧ va_D A _; rw [ht]; exact ⟨hP, hD⟩⟩, hS.F ht⟩) hS.2.2 dL_energy_16
set_option maxHeartbeats 4000000 in
set_option maxRecDepth 100000 in
theorem metL_ring (l : Launch) (G : va_G) (tys : List (ClassId × FieldType)) {A : Nat → Prop} {tE mi : Nat} {cJ : ClassId} (htJ : tys[2]? = some (cJ, .long)) (ws : va_W) {pv v : Nat} {vs : List Value} (hv : ws[pv]? = some (v, .inr (8, vs))) {po oj : Nat} {U : Type} {cd : Int32} {post : Int32 → U → Prop} {Wf : U → va_W} {x y : Int32} (hM : vx_Met l yX7_ring wsX7_ring { frames := 8, cells := 5, slots := 223, locals := 225 } (pcX G tys ws A tE mi [.ref v, .int x, .int y]) (va_Qi (fun (r : Int32) (u : U) => cd = 0 ∧ post r u) (fun u t => va_P G vwCl (Wf u) t.heap ∧ va_D A (Wf u)) A) (xcT (fun E => xC cd eIA eIS "" E)) 5 223 A) (hout : cd = 0 → ∀ r u, post r u → ∃ f, (Wf u)[po]? = some (oj, .inl (cJ, 1, .inr (.inl f)))) (n3 : ¬ cd = 3) : Met l yL_ring wsL_ring { frames := 9, cells := 5, slots := 223, locals := 247 } (pcX G tys ws A tE mi [.ref v, .int x, .int y, .ref oj]) (va_Qi (fun (r : Int32) (w : va_W) => mid cd ws (okI post Wf po oj cJ) r w) (fun w t => va_P G vwCl w t.heap ∧ va_D A w) A) 5 223 A := by
  refine ofL (cc := cL_ring) (maxL := 5) (ret := some .int) (hh := [(0, 10, 13, 13), (0, 10, 17, 15)]) (by decide) rfl (Nat.le_of_ble_eq_true rfl) ?_
  intro p e s m below meth c ls hx hb hr hlocks hml hown hts htab hl hP hK hD hA hS hE
  have hown : s.vm.findClass RL = some m.cls := hown
  have hl : lv_has ls 5 [(0, .ref v), (1, .int x), (2, .int y), (3, .ref oj)] := hl
  refine lv_aload_n hx hb dL_ring_0 rfl (lv_at hl 3 rfl) ?_
  refine lv_iconst (v := 0) hx hb dL_ring_1 (by decide) ?_
  refine lv_aload_n hx hb dL_ring_2 rfl (lv_at hl 0 rfl) ?_
  refine lv_iload_n hx hb dL_ring_3 rfl (lv_at hl 1 rfl) ?_
  refine lv_iload_n hx hb dL_ring_4 rfl (lv_at hl 2 rfl) ?_
  refine vx_calli (vx_runV (As := [.int x, .int y]) (rest := [.int (0 : Int32), .ref oj]) ⟨hx, hb, hml, hown, hts⟩ hM (cwV 2 hts gL_ring_X7_ring rfl rfl rfl (by decide +kernel) ⟨Nat.le_of_ble_eq_true rfl, Nat.le_of_ble_eq_true rfl⟩) ⟨pcX_b, va_recv hK hP (ci := 8) (q0 := pv) rfl hv, pcX_u hP hK hD hS hA hE⟩ rfl rfl hl.1 rfl (lv_room (Nat.le_of_ble_eq_true rfl)) dL_ring_5 ⟨Nat.le_of_ble_eq_true rfl, Nat.le_of_ble_eq_true rfl⟩) hS (fun q _ h => h) (fun q h => h) (fun q _ h => h.elim) (fun E ce q9 u t H1 locs1 ht hvm _ hu hsz hk1 hS1 hce hcv hcl => ?_) (fun r u t H1 locs1 ht hvm k5 hB hsz hk1 hS1 => ?_)
  · have hP1 : va_P G vwCl ws H1 := hP.kept (fun k x hx => hk1 x.1 ((hP k x hx).lt) id)
    rcases hu with ⟨hcd, rfl⟩ | ⟨hcd, rfl⟩ | ⟨hcd, rfl⟩
    · refine vx_catch (own := RL) (name := "java/lang/IllegalArgumentException") hown [] ⟨0, 10, 13, 13⟩ [⟨0, 10, 17, 15⟩] htab (fun z hz => absurd hz List.not_mem_nil) rfl (by decide) (hts (.classLink RL 13 "java/lang/IllegalArgumentException") (List.mem_of_getElem? (i := 1) rfl)) (env_cast hE (by decide)) hce hcv hcl ?_
      refine lv_astore (lv' := [(4, .ref q9), (0, .ref v), (1, .int x), (2, .int y), (3, .ref oj)]) hx hb dL_ring_13 hl (by decide) rfl (fun ls hl => ?_)
      refine lv_iconst (v := 1) hx hb dL_ring_15 (by decide) ?_
      refine W.widen (k := 5) (n := 223) (Nat.le_of_ble_eq_true rfl) (Nat.le_of_ble_eq_true rfl) ?_
      exact W.iret (v := 1) hx hb hr (fun t ht hW => ⟨⟨1, ws, rfl, Or.inl ⟨by rw [hcd]; decide, hcd.symm, rfl⟩, by show va_P G vwCl _ t.heap ∧ va_D A _; rw [ht]; exact ⟨hP1, hD⟩⟩, hS1.F ht⟩) hS1.2.2 dL_ring_16
    · refine vx_catch (own := RL) (name := "java/lang/IllegalStateException") hown [⟨0, 10, 13, 13⟩] ⟨0, 10, 17, 15⟩ [] htab (fun z hz => by rw [List.mem_singleton.mp hz]; exact Or.inr ⟨by decide, _, (hts (.classLink RL 13 "java/lang/IllegalArgumentException") (List.mem_of_getElem? (i := 1) rfl)), env_nc hE (by decide)⟩) rfl (by decide) (hts (.classLink RL 15 "java/lang/IllegalStateException") (List.mem_of_getElem? (i := 2) rfl)) (env_cast hE (by decide)) hce hcv hcl ?_
      refine lv_astore (lv' := [(4, .ref q9), (0, .ref v), (1, .int x), (2, .int y), (3, .ref oj)]) hx hb dL_ring_17 hl (by decide) rfl (fun ls hl => ?_)
      refine lv_iconst (v := 2) hx hb dL_ring_19 (by decide) ?_
      refine W.widen (k := 5) (n := 223) (Nat.le_of_ble_eq_true rfl) (Nat.le_of_ble_eq_true rfl) ?_
      exact W.iret (v := 2) hx hb hr (fun t ht hW => ⟨⟨2, ws, rfl, Or.inl ⟨by rw [hcd]; decide, hcd.symm, rfl⟩, by show va_P G vwCl _ t.heap ∧ va_D A _; rw [ht]; exact ⟨hP1, hD⟩⟩, hS1.F ht⟩) hS1.2.2 dL_ring_20
    · exact absurd hcd n3
  · rw [ht] at hB
    obtain ⟨hP, hD⟩ := hB
    obtain ⟨hcd, k5⟩ := k5
    obtain ⟨f, ho⟩ := hout hcd r u k5
    refine lv_i2l hx hb dL_ring_8 rfl ?_
    refine va_last hx hb hK hP hD hS1 po 2 ho htJ in01 dL_ring_9 (fun H2 locs2 hP hD hS => ?_)
    refine lv_goto (tgt := 21) hx hb dL_ring_10 (by decide) ?_
    refine lv_iconst (v := 0) hx hb dL_ring_21 (by decide) ?_
    refine W.widen (k := 5) (n := 223) (Nat.le_of_ble_eq_true rfl) (Nat.le_of_ble_eq_true rfl) ?_
    exact W.iret (v := 0) hx hb hr (fun t ht hW => ⟨⟨0, _, rfl, Or.inr ⟨hcd, rfl, ⟨r, u, f, k5, ho, rfl⟩⟩, by show va_P G vwCl _ t.heap ∧ va_D A _; rw [ht]; exact ⟨hP, hD⟩⟩, hS.F ht⟩) hS.2.2 dL_ring_22
set_option maxHeartbeats 4000000 in
set_option maxRecDepth 100000 in
theorem metL_flux (l : Launch) (G : va_G) (tys : List (ClassId × FieldType)) {A : Nat → Prop} {tE mi : Nat} {cJ : ClassId} (htJ : tys[2]? = some (cJ, .long)) (ws : va_W) {pv v : Nat} {vs : List Value} (hv : ws[pv]? = some (v, .inr (8, vs))) {po oj : Nat} {U : Type} {cd : Int32} {post : Int32 → U → Prop} {Wf : U → va_W} {x y : Int32} (hM : vx_Met l yX7_flux wsX7_flux { frames := 7, cells := 2, slots := 12, locals := 104 } (pcX G tys ws A tE mi [.ref v, .int x, .int y]) (va_Qi (fun (r : Int32) (u : U) => cd = 0 ∧ post r u) (fun u t => va_P G vwCl (Wf u) t.heap ∧ va_D A (Wf u)) A) (xcT (fun E => xC cd eIB eIA "" E)) 2 12 A) (hout : cd = 0 → ∀ r u, post r u → ∃ f, (Wf u)[po]? = some (oj, .inl (cJ, 1, .inr (.inl f)))) (n3 : ¬ cd = 3) : Met l yL_flux wsL_flux { frames := 8, cells := 2, slots := 12, locals := 127 } (pcX G tys ws A tE mi [.ref v, .int x, .int y, .ref oj]) (va_Qi (fun (r : Int32) (w : va_W) => mid cd ws (okI post Wf po oj cJ) r w) (fun w t => va_P G vwCl w t.heap ∧ va_D A w) A) 2 12 A := by
  refine ofL (cc := cL_flux) (maxL := 5) (ret := some .int) (hh := [(0, 10, 13, 20), (0, 10, 17, 13)]) (by decide) rfl (Nat.le_of_ble_eq_true rfl) ?_
  intro p e s m below meth c ls hx hb hr hlocks hml hown hts htab hl hP hK hD hA hS hE
  have hown : s.vm.findClass RL = some m.cls := hown
  have hl : lv_has ls 5 [(0, .ref v), (1, .int x), (2, .int y), (3, .ref oj)] := hl
  refine lv_aload_n hx hb dL_flux_0 rfl (lv_at hl 3 rfl) ?_
  refine lv_iconst (v := 0) hx hb dL_flux_1 (by decide) ?_
  refine lv_aload_n hx hb dL_flux_2 rfl (lv_at hl 0 rfl) ?_
  refine lv_iload_n hx hb dL_flux_3 rfl (lv_at hl 1 rfl) ?_
  refine lv_iload_n hx hb dL_flux_4 rfl (lv_at hl 2 rfl) ?_
  refine vx_calli (vx_runV (As := [.int x, .int y]) (rest := [.int (0 : Int32), .ref oj]) ⟨hx, hb, hml, hown, hts⟩ hM (cwV 2 hts gL_flux_X7_flux rfl rfl rfl (by decide +kernel) ⟨Nat.le_of_ble_eq_true rfl, Nat.le_of_ble_eq_true rfl⟩) ⟨pcX_b, va_recv hK hP (ci := 8) (q0 := pv) rfl hv, pcX_u hP hK hD hS hA hE⟩ rfl rfl hl.1 rfl (lv_room (Nat.le_of_ble_eq_true rfl)) dL_flux_5 ⟨Nat.le_of_ble_eq_true rfl, Nat.le_of_ble_eq_true rfl⟩) hS (fun q _ h => h) (fun q h => h) (fun q _ h => h.elim) (fun E ce q9 u t H1 locs1 ht hvm _ hu hsz hk1 hS1 hce hcv hcl => ?_) (fun r u t H1 locs1 ht hvm k5 hB hsz hk1 hS1 => ?_)
  · have hP1 : va_P G vwCl ws H1 := hP.kept (fun k x hx => hk1 x.1 ((hP k x hx).lt) id)
    rcases hu with ⟨hcd, rfl⟩ | ⟨hcd, rfl⟩ | ⟨hcd, rfl⟩
    · refine vx_catch (own := RL) (name := "java/lang/IndexOutOfBoundsException") hown [] ⟨0, 10, 13, 20⟩ [⟨0, 10, 17, 13⟩] htab (fun z hz => absurd hz List.not_mem_nil) rfl (by decide) (hts (.classLink RL 20 "java/lang/IndexOutOfBoundsException") (List.mem_of_getElem? (i := 1) rfl)) (env_cast hE (by decide)) hce hcv hcl ?_
      refine lv_astore (lv' := [(4, .ref q9), (0, .ref v), (1, .int x), (2, .int y), (3, .ref oj)]) hx hb dL_flux_13 hl (by decide) rfl (fun ls hl => ?_)
      refine lv_iconst (v := 1) hx hb dL_flux_15 (by decide) ?_
      refine W.widen (k := 2) (n := 12) (Nat.le_of_ble_eq_true rfl) (Nat.le_of_ble_eq_true rfl) ?_
      exact W.iret (v := 1) hx hb hr (fun t ht hW => ⟨⟨1, ws, rfl, Or.inl ⟨by rw [hcd]; decide, hcd.symm, rfl⟩, by show va_P G vwCl _ t.heap ∧ va_D A _; rw [ht]; exact ⟨hP1, hD⟩⟩, hS1.F ht⟩) hS1.2.2 dL_flux_16
    · refine vx_catch (own := RL) (name := "java/lang/IllegalArgumentException") hown [⟨0, 10, 13, 20⟩] ⟨0, 10, 17, 13⟩ [] htab (fun z hz => by rw [List.mem_singleton.mp hz]; exact Or.inr ⟨by decide, _, (hts (.classLink RL 20 "java/lang/IndexOutOfBoundsException") (List.mem_of_getElem? (i := 1) rfl)), env_nc hE (by decide)⟩) rfl (by decide) (hts (.classLink RL 13 "java/lang/IllegalArgumentException") (List.mem_of_getElem? (i := 2) rfl)) (env_cast hE (by decide)) hce hcv hcl ?_
      refine lv_astore (lv' := [(4, .ref q9), (0, .ref v), (1, .int x), (2, .int y), (3, .ref oj)]) hx hb dL_flux_17 hl (by decide) rfl (fun ls hl => ?_)
      refine lv_iconst (v := 2) hx hb dL_flux_19 (by decide) ?_
      refine W.widen (k := 2) (n := 12) (Nat.le_of_ble_eq_true rfl) (Nat.le_of_ble_eq_true rfl) ?_
      exact W.iret (v := 2) hx hb hr (fun t ht hW => ⟨⟨2, ws, rfl, Or.inl ⟨by rw [hcd]; decide, hcd.symm, rfl⟩, by show va_P G vwCl _ t.heap ∧ va_D A _; rw [ht]; exact ⟨hP1, hD⟩⟩, hS1.F ht⟩) hS1.2.2 dL_flux_20
    · exact absurd hcd n3
  · rw [ht] at hB
    obtain ⟨hP, hD⟩ := hB
    obtain ⟨hcd, k5⟩ := k5
    obtain ⟨f, ho⟩ := hout hcd r u k5
    refine lv_i2l hx hb dL_flux_8 rfl ?_
    refine va_last hx hb hK hP hD hS1 po 2 ho htJ in01 dL_flux_9 (fun H2 locs2 hP hD hS => ?_)
    refine lv_goto (tgt := 21) hx hb dL_flux_10 (by decide) ?_
    refine lv_iconst (v := 0) hx hb dL_flux_21 (by decide) ?_
    refine W.widen (k := 2) (n := 12) (Nat.le_of_ble_eq_true rfl) (Nat.le_of_ble_eq_true rfl) ?_
    exact W.iret (v := 0) hx hb hr (fun t ht hW => ⟨⟨0, _, rfl, Or.inr ⟨hcd, rfl, ⟨r, u, f, k5, ho, rfl⟩⟩, by show va_P G vwCl _ t.heap ∧ va_D A _; rw [ht]; exact ⟨hP, hD⟩⟩, hS.F ht⟩) hS.2.2 dL_flux_22
set_option maxHeartbeats 4000000 in
set_option maxRecDepth 100000 in
theorem metL_warm (l : Launch) (G : va_G) (tys : List (ClassId × FieldType)) {A : Nat → Prop} {tE mi : Nat} {cJ : ClassId} (htJ : tys[2]? = some (cJ, .long)) (ws : va_W) {pv v : Nat} {vs : List Value} (hv : ws[pv]? = some (v, .inr (8, vs))) {po oj : Nat} {U : Type} {cd : Int32} {post : Int32 → U → Prop} {Wf : U → va_W} {x : Int32} (hM : vx_Met l yX7_warm wsX7_warm { frames := 7, cells := 1, slots := 6, locals := 103 } (pcX G tys ws A tE mi [.ref v, .int x]) (va_Qi (fun (r : Int32) (u : U) => cd = 0 ∧ post r u) (fun u t => va_P G vwCl (Wf u) t.heap ∧ va_D A (Wf u)) A) (xcT (fun E => xC cd eIB "" "" E)) 1 6 A) (hout : cd = 0 → ∀ r u, post r u → ∃ f, (Wf u)[po]? = some (oj, .inl (cJ, 1, .inr (.inl f)))) (n2 : ¬ cd = 2) (n3 : ¬ cd = 3) : Met l yL_warm wsL_warm { frames := 8, cells := 1, slots := 6, locals := 125 } (pcX G tys ws A tE mi [.ref v, .int x, .ref oj]) (va_Qi (fun (r : Int32) (w : va_W) => mid cd ws (okI post Wf po oj cJ) r w) (fun w t => va_P G vwCl w t.heap ∧ va_D A w) A) 1 6 A := by
  refine ofL (cc := cL_warm) (maxL := 4) (ret := some .int) (hh := [(0, 9, 12, 20)]) (by decide) rfl (Nat.le_of_ble_eq_true rfl) ?_
  intro p e s m below meth c ls hx hb hr hlocks hml hown hts htab hl hP hK hD hA hS hE
  have hown : s.vm.findClass RL = some m.cls := hown
  have hl : lv_has ls 4 [(0, .ref v), (1, .int x), (2, .ref oj)] := hl
  refine lv_aload_n hx hb dL_warm_0 rfl (lv_at hl 2 rfl) ?_
  refine lv_iconst (v := 0) hx hb dL_warm_1 (by decide) ?_
  refine lv_aload_n hx hb dL_warm_2 rfl (lv_at hl 0 rfl) ?_
  refine lv_iload_n hx hb dL_warm_3 rfl (lv_at hl 1 rfl) ?_
  refine vx_calli (vx_runV (As := [.int x]) (rest := [.int (0 : Int32), .ref oj]) ⟨hx, hb, hml, hown, hts⟩ hM (cwV 1 hts gL_warm_X7_warm rfl rfl rfl (by decide +kernel) ⟨Nat.le_of_ble_eq_true rfl, Nat.le_of_ble_eq_true rfl⟩) ⟨pcX_b, va_recv hK hP (ci := 8) (q0 := pv) rfl hv, pcX_u hP hK hD hS hA hE⟩ rfl rfl hl.1 rfl (lv_room (Nat.le_of_ble_eq_true rfl)) dL_warm_4 ⟨Nat.le_of_ble_eq_true rfl, Nat.le_of_ble_eq_true rfl⟩) hS (fun q _ h => h) (fun q h => h) (fun q _ h => h.elim) (fun E ce q9 u t H1 locs1 ht hvm _ hu hsz hk1 hS1 hce hcv hcl => ?_) (fun r u t H1 locs1 ht hvm k5 hB hsz hk1 hS1 => ?_)
  · have hP1 : va_P G vwCl ws H1 := hP.kept (fun k x hx => hk1 x.1 ((hP k x hx).lt) id)
    rcases hu with ⟨hcd, rfl⟩ | ⟨hcd, rfl⟩ | ⟨hcd, rfl⟩
    · refine vx_catch (own := RL) (name := "java/lang/IndexOutOfBoundsException") hown [] ⟨0, 9, 12, 20⟩ [] htab (fun z hz => absurd hz List.not_mem_nil) rfl (by decide) (hts (.classLink RL 20 "java/lang/IndexOutOfBoundsException") (List.mem_of_getElem? (i := 1) rfl)) (env_cast hE (by decide)) hce hcv hcl ?_
      refine lv_astore_n (lv' := [(3, .ref q9), (0, .ref v), (1, .int x), (2, .ref oj)]) hx hb dL_warm_12 rfl hl (by decide) rfl (fun ls hl => ?_)
      refine lv_iconst (v := 1) hx hb dL_warm_13 (by decide) ?_
      refine W.widen (k := 1) (n := 6) (Nat.le_of_ble_eq_true rfl) (Nat.le_of_ble_eq_true rfl) ?_
      exact W.iret (v := 1) hx hb hr (fun t ht hW => ⟨⟨1, ws, rfl, Or.inl ⟨by rw [hcd]; decide, hcd.symm, rfl⟩, by show va_P G vwCl _ t.heap ∧ va_D A _; rw [ht]; exact ⟨hP1, hD⟩⟩, hS1.F ht⟩) hS1.2.2 dL_warm_14
    · exact absurd hcd n2
    · exact absurd hcd n3
  · rw [ht] at hB
    obtain ⟨hP, hD⟩ := hB
    obtain ⟨hcd, k5⟩ := k5
    obtain ⟨f, ho⟩ := hout hcd r u k5
    refine lv_i2l hx hb dL_warm_7 rfl ?_
    refine va_last hx hb hK hP hD hS1 po 2 ho htJ in01 dL_warm_8 (fun H2 locs2 hP hD hS => ?_)
    refine lv_goto (tgt := 15) hx hb dL_warm_9 (by decide) ?_
    refine lv_iconst (v := 0) hx hb dL_warm_15 (by decide) ?_
    refine W.widen (k := 1) (n := 6) (Nat.le_of_ble_eq_true rfl) (Nat.le_of_ble_eq_true rfl) ?_
    exact W.iret (v := 0) hx hb hr (fun t ht hW => ⟨⟨0, _, rfl, Or.inr ⟨hcd, rfl, ⟨r, u, f, k5, ho, rfl⟩⟩, by show va_P G vwCl _ t.heap ∧ va_D A _; rw [ht]; exact ⟨hP, hD⟩⟩, hS.F ht⟩) hS.2.2 dL_warm_16
set_option maxHeartbeats 4000000 in
set_option maxRecDepth 100000 in
theorem metL_ofRing (l : Launch) (G : va_G) (tys : List (ClassId × FieldType)) {A : Nat → Prop} {tE mi : Nat} {cJ : ClassId} (htJ : tys[2]? = some (cJ, .long)) (ws : va_W) {pv v : Nat} {vs : List Value} (hv : ws[pv]? = some (v, .inr (8, vs))) {po oj : Nat} {U : Type} {cd : Int32} {post : Int32 → U → Prop} {Wf : U → va_W} {x y : Int32} (hM : vx_Met l yX7_ofRing wsX7_ofRing { frames := 7, cells := 2, slots := 12, locals := 104 } (pcX G tys ws A tE mi [.ref v, .int x, .int y]) (va_Qi (fun (r : Int32) (u : U) => cd = 0 ∧ post r u) (fun u t => va_P G vwCl (Wf u) t.heap ∧ va_D A (Wf u)) A) (xcT (fun E => xC cd eIB eIA "" E)) 2 12 A) (hout : cd = 0 → ∀ r u, post r u → ∃ f, (Wf u)[po]? = some (oj, .inl (cJ, 1, .inr (.inl f)))) (n3 : ¬ cd = 3) : Met l yL_ofRing wsL_ofRing { frames := 8, cells := 2, slots := 12, locals := 127 } (pcX G tys ws A tE mi [.ref v, .int x, .int y, .ref oj]) (va_Qi (fun (r : Int32) (w : va_W) => mid cd ws (okI post Wf po oj cJ) r w) (fun w t => va_P G vwCl w t.heap ∧ va_D A w) A) 2 12 A := by
  refine ofL (cc := cL_ofRing) (maxL := 5) (ret := some .int) (hh := [(0, 10, 13, 20), (0, 10, 17, 13)]) (by decide) rfl (Nat.le_of_ble_eq_true rfl) ?_
  intro p e s m below meth c ls hx hb hr hlocks hml hown hts htab hl hP hK hD hA hS hE
  have hown : s.vm.findClass RL = some m.cls := hown
  have hl : lv_has ls 5 [(0, .ref v), (1, .int x), (2, .int y), (3, .ref oj)] := hl
  refine lv_aload_n hx hb dL_ofRing_0 rfl (lv_at hl 3 rfl) ?_
  refine lv_iconst (v := 0) hx hb dL_ofRing_1 (by decide) ?_
  refine lv_aload_n hx hb dL_ofRing_2 rfl (lv_at hl 0 rfl) ?_
  refine lv_iload_n hx hb dL_ofRing_3 rfl (lv_at hl 1 rfl) ?_
  refine lv_iload_n hx hb dL_ofRing_4 rfl (lv_at hl 2 rfl) ?_
  refine vx_calli (vx_runV (As := [.int x, .int y]) (rest := [.int (0 : Int32), .ref oj]) ⟨hx, hb, hml, hown, hts⟩ hM (cwV 2 hts gL_ofRing_X7_ofRing rfl rfl rfl (by decide +kernel) ⟨Nat.le_of_ble_eq_true rfl, Nat.le_of_ble_eq_true rfl⟩) ⟨pcX_b, va_recv hK hP (ci := 8) (q0 := pv) rfl hv, pcX_u hP hK hD hS hA hE⟩ rfl rfl hl.1 rfl (lv_room (Nat.le_of_ble_eq_true rfl)) dL_ofRing_5 ⟨Nat.le_of_ble_eq_true rfl, Nat.le_of_ble_eq_true rfl⟩) hS (fun q _ h => h) (fun q h => h) (fun q _ h => h.elim) (fun E ce q9 u t H1 locs1 ht hvm _ hu hsz hk1 hS1 hce hcv hcl => ?_) (fun r u t H1 locs1 ht hvm k5 hB hsz hk1 hS1 => ?_)
  · have hP1 : va_P G vwCl ws H1 := hP.kept (fun k x hx => hk1 x.1 ((hP k x hx).lt) id)
    rcases hu with ⟨hcd, rfl⟩ | ⟨hcd, rfl⟩ | ⟨hcd, rfl⟩
    · refine vx_catch (own := RL) (name := "java/lang/IndexOutOfBoundsException") hown [] ⟨0, 10, 13, 20⟩ [⟨0, 10, 17, 13⟩] htab (fun z hz => absurd hz List.not_mem_nil) rfl (by decide) (hts (.classLink RL 20 "java/lang/IndexOutOfBoundsException") (List.mem_of_getElem? (i := 1) rfl)) (env_cast hE (by decide)) hce hcv hcl ?_
      refine lv_astore (lv' := [(4, .ref q9), (0, .ref v), (1, .int x), (2, .int y), (3, .ref oj)]) hx hb dL_ofRing_13 hl (by decide) rfl (fun ls hl => ?_)
      refine lv_iconst (v := 1) hx hb dL_ofRing_15 (by decide) ?_
      refine W.widen (k := 2) (n := 12) (Nat.le_of_ble_eq_true rfl) (Nat.le_of_ble_eq_true rfl) ?_
      exact W.iret (v := 1) hx hb hr (fun t ht hW => ⟨⟨1, ws, rfl, Or.inl ⟨by rw [hcd]; decide, hcd.symm, rfl⟩, by show va_P G vwCl _ t.heap ∧ va_D A _; rw [ht]; exact ⟨hP1, hD⟩⟩, hS1.F ht⟩) hS1.2.2 dL_ofRing_16
    · refine vx_catch (own := RL) (name := "java/lang/IllegalArgumentException") hown [⟨0, 10, 13, 20⟩] ⟨0, 10, 17, 13⟩ [] htab (fun z hz => by rw [List.mem_singleton.mp hz]; exact Or.inr ⟨by decide, _, (hts (.classLink RL 20 "java/lang/IndexOutOfBoundsException") (List.mem_of_getElem? (i := 1) rfl)), env_nc hE (by decide)⟩) rfl (by decide) (hts (.classLink RL 13 "java/lang/IllegalArgumentException") (List.mem_of_getElem? (i := 2) rfl)) (env_cast hE (by decide)) hce hcv hcl ?_
      refine lv_astore (lv' := [(4, .ref q9), (0, .ref v), (1, .int x), (2, .int y), (3, .ref oj)]) hx hb dL_ofRing_17 hl (by decide) rfl (fun ls hl => ?_)
      refine lv_iconst (v := 2) hx hb dL_ofRing_19 (by decide) ?_
      refine W.widen (k := 2) (n := 12) (Nat.le_of_ble_eq_true rfl) (Nat.le_of_ble_eq_true rfl) ?_
      exact W.iret (v := 2) hx hb hr (fun t ht hW => ⟨⟨2, ws, rfl, Or.inl ⟨by rw [hcd]; decide, hcd.symm, rfl⟩, by show va_P G vwCl _ t.heap ∧ va_D A _; rw [ht]; exact ⟨hP1, hD⟩⟩, hS1.F ht⟩) hS1.2.2 dL_ofRing_20
    · exact absurd hcd n3
  · rw [ht] at hB
    obtain ⟨hP, hD⟩ := hB
    obtain ⟨hcd, k5⟩ := k5
    obtain ⟨f, ho⟩ := hout hcd r u k5
    refine lv_i2l hx hb dL_ofRing_8 rfl ?_
    refine va_last hx hb hK hP hD hS1 po 2 ho htJ in01 dL_ofRing_9 (fun H2 locs2 hP hD hS => ?_)
    refine lv_goto (tgt := 21) hx hb dL_ofRing_10 (by decide) ?_
    refine lv_iconst (v := 0) hx hb dL_ofRing_21 (by decide) ?_
    refine W.widen (k := 2) (n := 12) (Nat.le_of_ble_eq_true rfl) (Nat.le_of_ble_eq_true rfl) ?_
    exact W.iret (v := 0) hx hb hr (fun t ht hW => ⟨⟨0, _, rfl, Or.inr ⟨hcd, rfl, ⟨r, u, f, k5, ho, rfl⟩⟩, by show va_P G vwCl _ t.heap ∧ va_D A _; rw [ht]; exact ⟨hP, hD⟩⟩, hS.F ht⟩) hS.2.2 dL_ofRing_22
set_option maxHeartbeats 4000000 in
set_option maxRecDepth 100000 in
theorem metL_current (l : Launch) (G : va_G) (tys : List (ClassId × FieldType)) {A : Nat → Prop} {tE mi : Nat} {cJ : ClassId} (htJ : tys[2]? = some (cJ, .long)) (ws : va_W) {pv v : Nat} {vs : List Value} (hv : ws[pv]? = some (v, .inr (8, vs))) {po oj : Nat} {U : Type} {cd : Int32} {post : Int32 → U → Prop} {Wf : U → va_W} {x : Int32} (hM : vx_Met l yX7_current wsX7_current { frames := 7, cells := 1, slots := 6, locals := 104 } (pcX G tys ws A tE mi [.ref v, .int x]) (va_Qi (fun (r : Int32) (u : U) => cd = 0 ∧ post r u) (fun u t => va_P G vwCl (Wf u) t.heap ∧ va_D A (Wf u)) A) (xcT (fun E => xC cd eIA "" "" E)) 1 6 A) (hout : cd = 0 → ∀ r u, post r u → ∃ f, (Wf u)[po]? = some (oj, .inl (cJ, 1, .inr (.inl f)))) (n2 : ¬ cd = 2) (n3 : ¬ cd = 3) : Met l yL_current wsL_current { frames := 8, cells := 1, slots := 6, locals := 126 } (pcX G tys ws A tE mi [.ref v, .int x, .ref oj]) (va_Qi (fun (r : Int32) (w : va_W) => mid cd ws (okI post Wf po oj cJ) r w) (fun w t => va_P G vwCl w t.heap ∧ va_D A w) A) 1 6 A := by
  refine ofL (cc := cL_current) (maxL := 4) (ret := some .int) (hh := [(0, 9, 12, 13)]) (by decide) rfl (Nat.le_of_ble_eq_true rfl) ?_
  intro p e s m below meth c ls hx hb hr hlocks hml hown hts htab hl hP hK hD hA hS hE
  have hown : s.vm.findClass RL = some m.cls := hown
  have hl : lv_has ls 4 [(0, .ref v), (1, .int x), (2, .ref oj)] := hl
  refine lv_aload_n hx hb dL_current_0 rfl (lv_at hl 2 rfl) ?_
  refine lv_iconst (v := 0) hx hb dL_current_1 (by decide) ?_
  refine lv_aload_n hx hb dL_current_2 rfl (lv_at hl 0 rfl) ?_
  refine lv_iload_n hx hb dL_current_3 rfl (lv_at hl 1 rfl) ?_
  refine vx_calli (vx_runV (As := [.int x]) (rest := [.int (0 : Int32), .ref oj]) ⟨hx, hb, hml, hown, hts⟩ hM (cwV 1 hts gL_current_X7_current rfl rfl rfl (by decide +kernel) ⟨Nat.le_of_ble_eq_true rfl, Nat.le_of_ble_eq_true rfl⟩) ⟨pcX_b, va_recv hK hP (ci := 8) (q0 := pv) rfl hv, pcX_u hP hK hD hS hA hE⟩ rfl rfl hl.1 rfl (lv_room (Nat.le_of_ble_eq_true rfl)) dL_current_4 ⟨Nat.le_of_ble_eq_true rfl, Nat.le_of_ble_eq_true rfl⟩) hS (fun q _ h => h) (fun q h => h) (fun q _ h => h.elim) (fun E ce q9 u t H1 locs1 ht hvm _ hu hsz hk1 hS1 hce hcv hcl => ?_) (fun r u t H1 locs1 ht hvm k5 hB hsz hk1 hS1 => ?_)
  · have hP1 : va_P G vwCl ws H1 := hP.kept (fun k x hx => hk1 x.1 ((hP k x hx).lt) id)
    rcases hu with ⟨hcd, rfl⟩ | ⟨hcd, rfl⟩ | ⟨hcd, rfl⟩
    · refine vx_catch (own := RL) (name := "java/lang/IllegalArgumentException") hown [] ⟨0, 9, 12, 13⟩ [] htab (fun z hz => absurd hz List.not_mem_nil) rfl (by decide) (hts (.classLink RL 13 "java/lang/IllegalArgumentException") (List.mem_of_getElem? (i := 1) rfl)) (env_cast hE (by decide)) hce hcv hcl ?_
      refine lv_astore_n (lv' := [(3, .ref q9), (0, .ref v), (1, .int x), (2, .ref oj)]) hx hb dL_current_12 rfl hl (by decide) rfl (fun ls hl => ?_)
      refine lv_iconst (v := 1) hx hb dL_current_13 (by decide) ?_
      refine W.widen (k := 1) (n := 6) (Nat.le_of_ble_eq_true rfl) (Nat.le_of_ble_eq_true rfl) ?_
      exact W.iret (v := 1) hx hb hr (fun t ht hW => ⟨⟨1, ws, rfl, Or.inl ⟨by rw [hcd]; decide, hcd.symm, rfl⟩, by show va_P G vwCl _ t.heap ∧ va_D A _; rw [ht]; exact ⟨hP1, hD⟩⟩, hS1.F ht⟩) hS1.2.2 dL_current_14
    · exact absurd hcd n2
    · exact absurd hcd n3
  · rw [ht] at hB
    obtain ⟨hP, hD⟩ := hB
    obtain ⟨hcd, k5⟩ := k5
    obtain ⟨f, ho⟩ := hout hcd r u k5
    refine lv_i2l hx hb dL_current_7 rfl ?_
    refine va_last hx hb hK hP hD hS1 po 2 ho htJ in01 dL_current_8 (fun H2 locs2 hP hD hS => ?_)
    refine lv_goto (tgt := 15) hx hb dL_current_9 (by decide) ?_
    refine lv_iconst (v := 0) hx hb dL_current_15 (by decide) ?_
    refine W.widen (k := 1) (n := 6) (Nat.le_of_ble_eq_true rfl) (Nat.le_of_ble_eq_true rfl) ?_
    exact W.iret (v := 0) hx hb hr (fun t ht hW => ⟨⟨0, _, rfl, Or.inr ⟨hcd, rfl, ⟨r, u, f, k5, ho, rfl⟩⟩, by show va_P G vwCl _ t.heap ∧ va_D A _; rw [ht]; exact ⟨hP, hD⟩⟩, hS.F ht⟩) hS.2.2 dL_current_16
set_option maxHeartbeats 4000000 in
set_option maxRecDepth 100000 in
theorem metL_heat (l : Launch) (G : va_G) (tys : List (ClassId × FieldType)) {A : Nat → Prop} {tE mi : Nat} {cJ : ClassId} (htJ : tys[2]? = some (cJ, .long)) (ws : va_W) {pv v : Nat} {vs : List Value} (hv : ws[pv]? = some (v, .inr (8, vs))) {po oj : Nat} {U : Type} {cd : Int32} {post : Int32 → U → Prop} {Wf : U → va_W} {x y : Int32} (hM : vx_Met l yX7_heat wsX7_heat { frames := 7, cells := 2, slots := 12, locals := 104 } (pcX G tys ws A tE mi [.ref v, .int x, .int y]) (va_Qi (fun (r : Int32) (u : U) => cd = 0 ∧ post r u) (fun u t => va_P G vwCl (Wf u) t.heap ∧ va_D A (Wf u)) A) (xcT (fun E => xC cd eIB eIA "" E)) 2 12 A) (hout : cd = 0 → ∀ r u, post r u → ∃ f, (Wf u)[po]? = some (oj, .inl (cJ, 1, .inr (.inl f)))) (n3 : ¬ cd = 3) : Met l yL_heat wsL_heat { frames := 8, cells := 2, slots := 12, locals := 126 } (pcX G tys ws A tE mi [.ref v, .int x, .int y, .ref oj]) (va_Qi (fun (r : Int32) (w : va_W) => mid cd ws (okI post Wf po oj cJ) r w) (fun w t => va_P G vwCl w t.heap ∧ va_D A w) A) 2 12 A := by
  refine ofL (cc := cL_heat) (maxL := 5) (ret := some .int) (hh := [(0, 10, 13, 20), (0, 10, 17, 13)]) (by decide) rfl (Nat.le_of_ble_eq_true rfl) ?_
  intro p e s m below meth c ls hx hb hr hlocks hml hown hts htab hl hP hK hD hA hS hE
  have hown : s.vm.findClass RL = some m.cls := hown
  have hl : lv_has ls 5 [(0, .ref v), (1, .int x), (2, .int y), (3, .ref oj)] := hl
  refine lv_aload_n hx hb dL_heat_0 rfl (lv_at hl 3 rfl) ?_
  refine lv_iconst (v := 0) hx hb dL_heat_1 (by decide) ?_
  refine lv_aload_n hx hb dL_heat_2 rfl (lv_at hl 0 rfl) ?_
  refine lv_iload_n hx hb dL_heat_3 rfl (lv_at hl 1 rfl) ?_
  refine lv_iload_n hx hb dL_heat_4 rfl (lv_at hl 2 rfl) ?_
  refine vx_calli (vx_runV (As := [.int x, .int y]) (rest := [.int (0 : Int32), .ref oj]) ⟨hx, hb, hml, hown, hts⟩ hM (cwV 2 hts gL_heat_X7_heat rfl rfl rfl (by decide +kernel) ⟨Nat.le_of_ble_eq_true rfl, Nat.le_of_ble_eq_true rfl⟩) ⟨pcX_b, va_recv hK hP (ci := 8) (q0 := pv) rfl hv, pcX_u hP hK hD hS hA hE⟩ rfl rfl hl.1 rfl (lv_room (Nat.le_of_ble_eq_true rfl)) dL_heat_5 ⟨Nat.le_of_ble_eq_true rfl, Nat.le_of_ble_eq_true rfl⟩) hS (fun q _ h => h) (fun q h => h) (fun q _ h => h.elim) (fun E ce q9 u t H1 locs1 ht hvm _ hu hsz hk1 hS1 hce hcv hcl => ?_) (fun r u t H1 locs1 ht hvm k5 hB hsz hk1 hS1 => ?_)
  · have hP1 : va_P G vwCl ws H1 := hP.kept (fun k x hx => hk1 x.1 ((hP k x hx).lt) id)
    rcases hu with ⟨hcd, rfl⟩ | ⟨hcd, rfl⟩ | ⟨hcd, rfl⟩
    · refine vx_catch (own := RL) (name := "java/lang/IndexOutOfBoundsException") hown [] ⟨0, 10, 13, 20⟩ [⟨0, 10, 17, 13⟩] htab (fun z hz => absurd hz List.not_mem_nil) rfl (by decide) (hts (.classLink RL 20 "java/lang/IndexOutOfBoundsException") (List.mem_of_getElem? (i := 1) rfl)) (env_cast hE (by decide)) hce hcv hcl ?_
      refine lv_astore (lv' := [(4, .ref q9), (0, .ref v), (1, .int x), (2, .int y), (3, .ref oj)]) hx hb dL_heat_13 hl (by decide) rfl (fun ls hl => ?_)
      refine lv_iconst (v := 1) hx hb dL_heat_15 (by decide) ?_
      refine W.widen (k := 2) (n := 12) (Nat.le_of_ble_eq_true rfl) (Nat.le_of_ble_eq_true rfl) ?_
      exact W.iret (v := 1) hx hb hr (fun t ht hW => ⟨⟨1, ws, rfl, Or.inl ⟨by rw [hcd]; decide, hcd.symm, rfl⟩, by show va_P G vwCl _ t.heap ∧ va_D A _; rw [ht]; exact ⟨hP1, hD⟩⟩, hS1.F ht⟩) hS1.2.2 dL_heat_16
    · refine vx_catch (own := RL) (name := "java/lang/IllegalArgumentException") hown [⟨0, 10, 13, 20⟩] ⟨0, 10, 17, 13⟩ [] htab (fun z hz => by rw [List.mem_singleton.mp hz]; exact Or.inr ⟨by decide, _, (hts (.classLink RL 20 "java/lang/IndexOutOfBoundsException") (List.mem_of_getElem? (i := 1) rfl)), env_nc hE (by decide)⟩) rfl (by decide) (hts (.classLink RL 13 "java/lang/IllegalArgumentException") (List.mem_of_getElem? (i := 2) rfl)) (env_cast hE (by decide)) hce hcv hcl ?_
      refine lv_astore (lv' := [(4, .ref q9), (0, .ref v), (1, .int x), (2, .int y), (3, .ref oj)]) hx hb dL_heat_17 hl (by decide) rfl (fun ls hl => ?_)
      refine lv_iconst (v := 2) hx hb dL_heat_19 (by decide) ?_
      refine W.widen (k := 2) (n := 12) (Nat.le_of_ble_eq_true rfl) (Nat.le_of_ble_eq_true rfl) ?_
      exact W.iret (v := 2) hx hb hr (fun t ht hW => ⟨⟨2, ws, rfl, Or.inl ⟨by rw [hcd]; decide, hcd.symm, rfl⟩, by show va_P G vwCl _ t.heap ∧ va_D A _; rw [ht]; exact ⟨hP1, hD⟩⟩, hS1.F ht⟩) hS1.2.2 dL_heat_20
    · exact absurd hcd n3
  · rw [ht] at hB
    obtain ⟨hP, hD⟩ := hB
    obtain ⟨hcd, k5⟩ := k5
    obtain ⟨f, ho⟩ := hout hcd r u k5
    refine lv_i2l hx hb dL_heat_8 rfl ?_
    refine va_last hx hb hK hP hD hS1 po 2 ho htJ in01 dL_heat_9 (fun H2 locs2 hP hD hS => ?_)
    refine lv_goto (tgt := 21) hx hb dL_heat_10 (by decide) ?_
    refine lv_iconst (v := 0) hx hb dL_heat_21 (by decide) ?_
    refine W.widen (k := 2) (n := 12) (Nat.le_of_ble_eq_true rfl) (Nat.le_of_ble_eq_true rfl) ?_
    exact W.iret (v := 0) hx hb hr (fun t ht hW => ⟨⟨0, _, rfl, Or.inr ⟨hcd, rfl, ⟨r, u, f, k5, ho, rfl⟩⟩, by show va_P G vwCl _ t.heap ∧ va_D A _; rw [ht]; exact ⟨hP, hD⟩⟩, hS.F ht⟩) hS.2.2 dL_heat_22
set_option maxHeartbeats 4000000 in
set_option maxRecDepth 100000 in
theorem metL_pass (l : Launch) (G : va_G) (tys : List (ClassId × FieldType)) {A : Nat → Prop} {tE mi : Nat} {cJ : ClassId} (htJ : tys[2]? = some (cJ, .long)) (ws : va_W) {pv v : Nat} {vs : List Value} (hv : ws[pv]? = some (v, .inr (8, vs))) {po oj : Nat} {U : Type} {cd : Int32} {post : Int32 → U → Prop} {Wf : U → va_W} {x : Int32} (hM : vx_Met l yX7_pass wsX7_pass { frames := 7, cells := 1, slots := 6, locals := 105 } (pcX G tys ws A tE mi [.ref v, .int x]) (va_Qi (fun (r : Int32) (u : U) => cd = 0 ∧ post r u) (fun u t => va_P G vwCl (Wf u) t.heap ∧ va_D A (Wf u)) A) (xcT (fun E => xC cd eIA "" "" E)) 1 6 A) (hout : cd = 0 → ∀ r u, post r u → ∃ f, (Wf u)[po]? = some (oj, .inl (cJ, 1, .inr (.inl f)))) (n2 : ¬ cd = 2) (n3 : ¬ cd = 3) : Met l yL_pass wsL_pass { frames := 8, cells := 1, slots := 6, locals := 127 } (pcX G tys ws A tE mi [.ref v, .int x, .ref oj]) (va_Qi (fun (r : Int32) (w : va_W) => mid cd ws (okI post Wf po oj cJ) r w) (fun w t => va_P G vwCl w t.heap ∧ va_D A w) A) 1 6 A := by
  refine ofL (cc := cL_pass) (maxL := 4) (ret := some .int) (hh := [(0, 9, 12, 13)]) (by decide) rfl (Nat.le_of_ble_eq_true rfl) ?_
  intro p e s m below meth c ls hx hb hr hlocks hml hown hts htab hl hP hK hD hA hS hE
  have hown : s.vm.findClass RL = some m.cls := hown
  have hl : lv_has ls 4 [(0, .ref v), (1, .int x), (2, .ref oj)] := hl
  refine lv_aload_n hx hb dL_pass_0 rfl (lv_at hl 2 rfl) ?_
  refine lv_iconst (v := 0) hx hb dL_pass_1 (by decide) ?_
  refine lv_aload_n hx hb dL_pass_2 rfl (lv_at hl 0 rfl) ?_
  refine lv_iload_n hx hb dL_pass_3 rfl (lv_at hl 1 rfl) ?_
  refine vx_calli (vx_runV (As := [.int x]) (rest := [.int (0 : Int32), .ref oj]) ⟨hx, hb, hml, hown, hts⟩ hM (cwV 1 hts gL_pass_X7_pass rfl rfl rfl (by decide +kernel) ⟨Nat.le_of_ble_eq_true rfl, Nat.le_of_ble_eq_true rfl⟩) ⟨pcX_b, va_recv hK hP (ci := 8) (q0 := pv) rfl hv, pcX_u hP hK hD hS hA hE⟩ rfl rfl hl.1 rfl (lv_room (Nat.le_of_ble_eq_true rfl)) dL_pass_4 ⟨Nat.le_of_ble_eq_true rfl, Nat.le_of_ble_eq_true rfl⟩) hS (fun q _ h => h) (fun q h => h) (fun q _ h => h.elim) (fun E ce q9 u t H1 locs1 ht hvm _ hu hsz hk1 hS1 hce hcv hcl => ?_) (fun r u t H1 locs1 ht hvm k5 hB hsz hk1 hS1 => ?_)
  · have hP1 : va_P G vwCl ws H1 := hP.kept (fun k x hx => hk1 x.1 ((hP k x hx).lt) id)
    rcases hu with ⟨hcd, rfl⟩ | ⟨hcd, rfl⟩ | ⟨hcd, rfl⟩
    · refine vx_catch (own := RL) (name := "java/lang/IllegalArgumentException") hown [] ⟨0, 9, 12, 13⟩ [] htab (fun z hz => absurd hz List.not_mem_nil) rfl (by decide) (hts (.classLink RL 13 "java/lang/IllegalArgumentException") (List.mem_of_getElem? (i := 1) rfl)) (env_cast hE (by decide)) hce hcv hcl ?_
      refine lv_astore_n (lv' := [(3, .ref q9), (0, .ref v), (1, .int x), (2, .ref oj)]) hx hb dL_pass_12 rfl hl (by decide) rfl (fun ls hl => ?_)
      refine lv_iconst (v := 1) hx hb dL_pass_13 (by decide) ?_
      refine W.widen (k := 1) (n := 6) (Nat.le_of_ble_eq_true rfl) (Nat.le_of_ble_eq_true rfl) ?_
      exact W.iret (v := 1) hx hb hr (fun t ht hW => ⟨⟨1, ws, rfl, Or.inl ⟨by rw [hcd]; decide, hcd.symm, rfl⟩, by show va_P G vwCl _ t.heap ∧ va_D A _; rw [ht]; exact ⟨hP1, hD⟩⟩, hS1.F ht⟩) hS1.2.2 dL_pass_14
    · exact absurd hcd n2
    · exact absurd hcd n3
  · rw [ht] at hB
    obtain ⟨hP, hD⟩ := hB
    obtain ⟨hcd, k5⟩ := k5
    obtain ⟨f, ho⟩ := hout hcd r u k5
    refine lv_i2l hx hb dL_pass_7 rfl ?_
    refine va_last hx hb hK hP hD hS1 po 2 ho htJ in01 dL_pass_8 (fun H2 locs2 hP hD hS => ?_)
    refine lv_goto (tgt := 15) hx hb dL_pass_9 (by decide) ?_
    refine lv_iconst (v := 0) hx hb dL_pass_15 (by decide) ?_
    refine W.widen (k := 1) (n := 6) (Nat.le_of_ble_eq_true rfl) (Nat.le_of_ble_eq_true rfl) ?_
    exact W.iret (v := 0) hx hb hr (fun t ht hW => ⟨⟨0, _, rfl, Or.inr ⟨hcd, rfl, ⟨r, u, f, k5, ho, rfl⟩⟩, by show va_P G vwCl _ t.heap ∧ va_D A _; rw [ht]; exact ⟨hP, hD⟩⟩, hS.F ht⟩) hS.2.2 dL_pass_16
set_option maxHeartbeats 4000000 in
set_option maxRecDepth 100000 in
theorem metL_warmth (l : Launch) (G : va_G) (tys : List (ClassId × FieldType)) {A : Nat → Prop} {tE mi : Nat} {cJ : ClassId} (htJ : tys[2]? = some (cJ, .long)) (ws : va_W) {pv v : Nat} {vs : List Value} (hv : ws[pv]? = some (v, .inr (8, vs))) {po oj : Nat} {U : Type} {cd : Int32} {post : Int32 → U → Prop} {Wf : U → va_W} {x : Int32} (hM : vx_Met l yX7_warmth wsX7_warmth { frames := 7, cells := 1, slots := 6, locals := 103 } (pcX G tys ws A tE mi [.ref v, .int x]) (va_Qi (fun (r : Int32) (u : U) => cd = 0 ∧ post r u) (fun u t => va_P G vwCl (Wf u) t.heap ∧ va_D A (Wf u)) A) (xcT (fun E => xC cd eIB "" "" E)) 1 6 A) (hout : cd = 0 → ∀ r u, post r u → ∃ f, (Wf u)[po]? = some (oj, .inl (cJ, 1, .inr (.inl f)))) (n2 : ¬ cd = 2) (n3 : ¬ cd = 3) : Met l yL_warmth wsL_warmth { frames := 8, cells := 1, slots := 6, locals := 124 } (pcX G tys ws A tE mi [.ref v, .int x, .ref oj]) (va_Qi (fun (r : Int32) (w : va_W) => mid cd ws (okI post Wf po oj cJ) r w) (fun w t => va_P G vwCl w t.heap ∧ va_D A w) A) 1 6 A := by
  refine ofL (cc := cL_warmth) (maxL := 4) (ret := some .int) (hh := [(0, 9, 12, 20)]) (by decide) rfl (Nat.le_of_ble_eq_true rfl) ?_
  intro p e s m below meth c ls hx hb hr hlocks hml hown hts htab hl hP hK hD hA hS hE
  have hown : s.vm.findClass RL = some m.cls := hown
  have hl : lv_has ls 4 [(0, .ref v), (1, .int x), (2, .ref oj)] := hl
  refine lv_aload_n hx hb dL_warmth_0 rfl (lv_at hl 2 rfl) ?_
  refine lv_iconst (v := 0) hx hb dL_warmth_1 (by decide) ?_
  refine lv_aload_n hx hb dL_warmth_2 rfl (lv_at hl 0 rfl) ?_
  refine lv_iload_n hx hb dL_warmth_3 rfl (lv_at hl 1 rfl) ?_
  refine vx_calli (vx_runV (As := [.int x]) (rest := [.int (0 : Int32), .ref oj]) ⟨hx, hb, hml, hown, hts⟩ hM (cwV 1 hts gL_warmth_X7_warmth rfl rfl rfl (by decide +kernel) ⟨Nat.le_of_ble_eq_true rfl, Nat.le_of_ble_eq_true rfl⟩) ⟨pcX_b, va_recv hK hP (ci := 8) (q0 := pv) rfl hv, pcX_u hP hK hD hS hA hE⟩ rfl rfl hl.1 rfl (lv_room (Nat.le_of_ble_eq_true rfl)) dL_warmth_4 ⟨Nat.le_of_ble_eq_true rfl, Nat.le_of_ble_eq_true rfl⟩) hS (fun q _ h => h) (fun q h => h) (fun q _ h => h.elim) (fun E ce q9 u t H1 locs1 ht hvm _ hu hsz hk1 hS1 hce hcv hcl => ?_) (fun r u t H1 locs1 ht hvm k5 hB hsz hk1 hS1 => ?_)
  · have hP1 : va_P G vwCl ws H1 := hP.kept (fun k x hx => hk1 x.1 ((hP k x hx).lt) id)
    rcases hu with ⟨hcd, rfl⟩ | ⟨hcd, rfl⟩ | ⟨hcd, rfl⟩
    · refine vx_catch (own := RL) (name := "java/lang/IndexOutOfBoundsException") hown [] ⟨0, 9, 12, 20⟩ [] htab (fun z hz => absurd hz List.not_mem_nil) rfl (by decide) (hts (.classLink RL 20 "java/lang/IndexOutOfBoundsException") (List.mem_of_getElem? (i := 1) rfl)) (env_cast hE (by decide)) hce hcv hcl ?_
      refine lv_astore_n (lv' := [(3, .ref q9), (0, .ref v), (1, .int x), (2, .ref oj)]) hx hb dL_warmth_12 rfl hl (by decide) rfl (fun ls hl => ?_)
      refine lv_iconst (v := 1) hx hb dL_warmth_13 (by decide) ?_
      refine W.widen (k := 1) (n := 6) (Nat.le_of_ble_eq_true rfl) (Nat.le_of_ble_eq_true rfl) ?_
      exact W.iret (v := 1) hx hb hr (fun t ht hW => ⟨⟨1, ws, rfl, Or.inl ⟨by rw [hcd]; decide, hcd.symm, rfl⟩, by show va_P G vwCl _ t.heap ∧ va_D A _; rw [ht]; exact ⟨hP1, hD⟩⟩, hS1.F ht⟩) hS1.2.2 dL_warmth_14
    · exact absurd hcd n2
    · exact absurd hcd n3
  · rw [ht] at hB
    obtain ⟨hP, hD⟩ := hB
    obtain ⟨hcd, k5⟩ := k5
    obtain ⟨f, ho⟩ := hout hcd r u k5
    refine lv_i2l hx hb dL_warmth_7 rfl ?_
    refine va_last hx hb hK hP hD hS1 po 2 ho htJ in01 dL_warmth_8 (fun H2 locs2 hP hD hS => ?_)
    refine lv_goto (tgt := 15) hx hb dL_warmth_9 (by decide) ?_
    refine lv_iconst (v := 0) hx hb dL_warmth_15 (by decide) ?_
    refine W.widen (k := 1) (n := 6) (Nat.le_of_ble_eq_true rfl) (Nat.le_of_ble_eq_true rfl) ?_
    exact W.iret (v := 0) hx hb hr (fun t ht hW => ⟨⟨0, _, rfl, Or.inr ⟨hcd, rfl, ⟨r, u, f, k5, ho, rfl⟩⟩, by show va_P G vwCl _ t.heap ∧ va_D A _; rw [ht]; exact ⟨hP, hD⟩⟩, hS.F ht⟩) hS.2.2 dL_warmth_16
set_option maxHeartbeats 4000000 in
set_option maxRecDepth 100000 in
theorem metL_ofCoil (l : Launch) (G : va_G) (tys : List (ClassId × FieldType)) {A : Nat → Prop} {tE mi : Nat} {cJ : ClassId} (htJ : tys[2]? = some (cJ, .long)) (ws : va_W) {pv v : Nat} {vs : List Value} (hv : ws[pv]? = some (v, .inr (8, vs))) {po oj : Nat} {U : Type} {cd : Int32} {post : Int64 → U → Prop} {Wf : U → va_W} {x : Int32} (hM : vx_Met l yX7_ofCoil wsX7_ofCoil { frames := 7, cells := 1, slots := 6, locals := 104 } (pcX G tys ws A tE mi [.ref v, .int x]) (va_Ql (fun (r : Int64) (u : U) => cd = 0 ∧ post r u) (fun u t => va_P G vwCl (Wf u) t.heap ∧ va_D A (Wf u)) A) (xcT (fun E => xC cd eIA "" "" E)) 1 6 A) (hout : cd = 0 → ∀ r u, post r u → ∃ f, (Wf u)[po]? = some (oj, .inl (cJ, 1, .inr (.inl f)))) (n2 : ¬ cd = 2) (n3 : ¬ cd = 3) : Met l yL_ofCoil wsL_ofCoil { frames := 8, cells := 1, slots := 6, locals := 125 } (pcX G tys ws A tE mi [.ref v, .int x, .ref oj]) (va_Qi (fun (r : Int32) (w : va_W) => mid cd ws (okL post Wf po oj cJ) r w) (fun w t => va_P G vwCl w t.heap ∧ va_D A w) A) 1 6 A := by
  refine ofL (cc := cL_ofCoil) (maxL := 4) (ret := some .int) (hh := [(0, 8, 11, 13)]) (by decide) rfl (Nat.le_of_ble_eq_true rfl) ?_
  intro p e s m below meth c ls hx hb hr hlocks hml hown hts htab hl hP hK hD hA hS hE
  have hown : s.vm.findClass RL = some m.cls := hown
  have hl : lv_has ls 4 [(0, .ref v), (1, .int x), (2, .ref oj)] := hl
  refine lv_aload_n hx hb dL_ofCoil_0 rfl (lv_at hl 2 rfl) ?_
  refine lv_iconst (v := 0) hx hb dL_ofCoil_1 (by decide) ?_
  refine lv_aload_n hx hb dL_ofCoil_2 rfl (lv_at hl 0 rfl) ?_
  refine lv_iload_n hx hb dL_ofCoil_3 rfl (lv_at hl 1 rfl) ?_
  refine vx_calll (vx_runV (As := [.int x]) (rest := [.int (0 : Int32), .ref oj]) ⟨hx, hb, hml, hown, hts⟩ hM (cwV 1 hts gL_ofCoil_X7_ofCoil rfl rfl rfl (by decide +kernel) ⟨Nat.le_of_ble_eq_true rfl, Nat.le_of_ble_eq_true rfl⟩) ⟨pcX_b, va_recv hK hP (ci := 8) (q0 := pv) rfl hv, pcX_u hP hK hD hS hA hE⟩ rfl rfl hl.1 rfl (lv_room (Nat.le_of_ble_eq_true rfl)) dL_ofCoil_4 ⟨Nat.le_of_ble_eq_true rfl, Nat.le_of_ble_eq_true rfl⟩) hS (fun q _ h => h) (fun q h => h) (fun q _ h => h.elim) (fun E ce q9 u t H1 locs1 ht hvm _ hu hsz hk1 hS1 hce hcv hcl => ?_) (fun r u t H1 locs1 ht hvm k5 hB hsz hk1 hS1 => ?_)
  · have hP1 : va_P G vwCl ws H1 := hP.kept (fun k x hx => hk1 x.1 ((hP k x hx).lt) id)
    rcases hu with ⟨hcd, rfl⟩ | ⟨hcd, rfl⟩ | ⟨hcd, rfl⟩
    · refine vx_catch (own := RL) (name := "java/lang/IllegalArgumentException") hown [] ⟨0, 8, 11, 13⟩ [] htab (fun z hz => absurd hz List.not_mem_nil) rfl (by decide) (hts (.classLink RL 13 "java/lang/IllegalArgumentException") (List.mem_of_getElem? (i := 1) rfl)) (env_cast hE (by decide)) hce hcv hcl ?_
      refine lv_astore_n (lv' := [(3, .ref q9), (0, .ref v), (1, .int x), (2, .ref oj)]) hx hb dL_ofCoil_11 rfl hl (by decide) rfl (fun ls hl => ?_)
      refine lv_iconst (v := 1) hx hb dL_ofCoil_12 (by decide) ?_
      refine W.widen (k := 1) (n := 6) (Nat.le_of_ble_eq_true rfl) (Nat.le_of_ble_eq_true rfl) ?_
      exact W.iret (v := 1) hx hb hr (fun t ht hW => ⟨⟨1, ws, rfl, Or.inl ⟨by rw [hcd]; decide, hcd.symm, rfl⟩, by show va_P G vwCl _ t.heap ∧ va_D A _; rw [ht]; exact ⟨hP1, hD⟩⟩, hS1.F ht⟩) hS1.2.2 dL_ofCoil_13
    · exact absurd hcd n2
    · exact absurd hcd n3
  · rw [ht] at hB
    obtain ⟨hP, hD⟩ := hB
    obtain ⟨hcd, k5⟩ := k5
    obtain ⟨f, ho⟩ := hout hcd r u k5
    refine va_last hx hb hK hP hD hS1 po 2 ho htJ in01 dL_ofCoil_7 (fun H2 locs2 hP hD hS => ?_)
    refine lv_goto (tgt := 14) hx hb dL_ofCoil_8 (by decide) ?_
    refine lv_iconst (v := 0) hx hb dL_ofCoil_14 (by decide) ?_
    refine W.widen (k := 1) (n := 6) (Nat.le_of_ble_eq_true rfl) (Nat.le_of_ble_eq_true rfl) ?_
    exact W.iret (v := 0) hx hb hr (fun t ht hW => ⟨⟨0, _, rfl, Or.inr ⟨hcd, rfl, ⟨r, u, f, k5, ho, rfl⟩⟩, by show va_P G vwCl _ t.heap ∧ va_D A _; rw [ht]; exact ⟨hP, hD⟩⟩, hS.F ht⟩) hS.2.2 dL_ofCoil_15
set_option maxHeartbeats 4000000 in
set_option maxRecDepth 100000 in
theorem metL_margins (l : Launch) (G : va_G) (tys : List (ClassId × FieldType)) {A : Nat → Prop} {tE mi : Nat} (ws : va_W) {pv v : Nat} {vs : List Value} (hv : ws[pv]? = some (v, .inr (8, vs))) {U : Type} {cd : Int32} {post : U → Prop} {Wf : U → va_W} {x y : Int32} (hM : vx_Met l yX7_margins wsX7_margins { frames := 7, cells := 2, slots := 12, locals := 104 } (pcX G tys ws A tE mi [.ref v, .int x, .int y]) (va_Qv (fun (u : U) => cd = 0 ∧ post u) (fun u t => va_P G vwCl (Wf u) t.heap ∧ va_D A (Wf u)) A) (xcT (fun E => xC cd eIA "" "" E)) 2 12 A) (n2 : ¬ cd = 2) (n3 : ¬ cd = 3) : Met l yL_margins wsL_margins { frames := 8, cells := 2, slots := 12, locals := 126 } (pcX G tys ws A tE mi [.ref v, .int x, .int y]) (va_Qi (fun (r : Int32) (w : va_W) => mid cd ws (okV post Wf) r w) (fun w t => va_P G vwCl w t.heap ∧ va_D A w) A) 2 12 A := by
  refine ofL (cc := cL_margins) (maxL := 4) (ret := some .int) (hh := [(0, 6, 9, 13)]) (by decide) rfl (Nat.le_of_ble_eq_true rfl) ?_
  intro p e s m below meth c ls hx hb hr hlocks hml hown hts htab hl hP hK hD hA hS hE
  have hown : s.vm.findClass RL = some m.cls := hown
  have hl : lv_has ls 4 [(0, .ref v), (1, .int x), (2, .int y)] := hl
  refine lv_aload_n hx hb dL_margins_0 rfl (lv_at hl 0 rfl) ?_
  refine lv_iload_n hx hb dL_margins_1 rfl (lv_at hl 1 rfl) ?_
  refine lv_iload_n hx hb dL_margins_2 rfl (lv_at hl 2 rfl) ?_
  refine vx_callv (vx_runV (As := [.int x, .int y]) (rest := []) ⟨hx, hb, hml, hown, hts⟩ hM (cwV 2 hts gL_margins_X7_margins rfl rfl rfl (by decide +kernel) ⟨Nat.le_of_ble_eq_true rfl, Nat.le_of_ble_eq_true rfl⟩) ⟨pcX_b, va_recv hK hP (ci := 8) (q0 := pv) rfl hv, pcX_u hP hK hD hS hA hE⟩ rfl rfl hl.1 rfl (lv_room (Nat.le_of_ble_eq_true rfl)) dL_margins_3 ⟨Nat.le_of_ble_eq_true rfl, Nat.le_of_ble_eq_true rfl⟩) hS (fun q _ h => h) (fun q h => h) (fun q _ h => h.elim) (fun E ce q9 u t H1 locs1 ht hvm _ hu hsz hk1 hS1 hce hcv hcl => ?_) (fun u t H1 locs1 ht hvm k5 hB hsz hk1 hS1 => ?_)
  · have hP1 : va_P G vwCl ws H1 := hP.kept (fun k x hx => hk1 x.1 ((hP k x hx).lt) id)
    rcases hu with ⟨hcd, rfl⟩ | ⟨hcd, rfl⟩ | ⟨hcd, rfl⟩
    · refine vx_catch (own := RL) (name := "java/lang/IllegalArgumentException") hown [] ⟨0, 6, 9, 13⟩ [] htab (fun z hz => absurd hz List.not_mem_nil) rfl (by decide) (hts (.classLink RL 13 "java/lang/IllegalArgumentException") (List.mem_of_getElem? (i := 1) rfl)) (env_cast hE (by decide)) hce hcv hcl ?_
      refine lv_astore_n (lv' := [(3, .ref q9), (0, .ref v), (1, .int x), (2, .int y)]) hx hb dL_margins_9 rfl hl (by decide) rfl (fun ls hl => ?_)
      refine lv_iconst (v := 1) hx hb dL_margins_10 (by decide) ?_
      refine W.widen (k := 2) (n := 12) (Nat.le_of_ble_eq_true rfl) (Nat.le_of_ble_eq_true rfl) ?_
      exact W.iret (v := 1) hx hb hr (fun t ht hW => ⟨⟨1, ws, rfl, Or.inl ⟨by rw [hcd]; decide, hcd.symm, rfl⟩, by show va_P G vwCl _ t.heap ∧ va_D A _; rw [ht]; exact ⟨hP1, hD⟩⟩, hS1.F ht⟩) hS1.2.2 dL_margins_11
    · exact absurd hcd n2
    · exact absurd hcd n3
  · rw [ht] at hB
    obtain ⟨hP, hD⟩ := hB
    obtain ⟨hcd, k5⟩ := k5
    have hS := hS1
    refine lv_goto (tgt := 12) hx hb dL_margins_6 (by decide) ?_
    refine lv_iconst (v := 0) hx hb dL_margins_12 (by decide) ?_
    refine W.widen (k := 2) (n := 12) (Nat.le_of_ble_eq_true rfl) (Nat.le_of_ble_eq_true rfl) ?_
    exact W.iret (v := 0) hx hb hr (fun t ht hW => ⟨⟨0, _, rfl, Or.inr ⟨hcd, rfl, ⟨u, k5, rfl⟩⟩, by show va_P G vwCl _ t.heap ∧ va_D A _; rw [ht]; exact ⟨hP, hD⟩⟩, hS.F ht⟩) hS.2.2 dL_margins_13
set_option maxHeartbeats 4000000 in
set_option maxRecDepth 100000 in
theorem metL_pulse (l : Launch) (G : va_G) (tys : List (ClassId × FieldType)) {A : Nat → Prop} {tE mi : Nat} {cJ : ClassId} (htJ : tys[2]? = some (cJ, .long)) (ws : va_W) {pv v : Nat} {vs : List Value} (hv : ws[pv]? = some (v, .inr (8, vs))) {po oj : Nat} {U : Type} {cd : Int32} {post : Int32 → U → Prop} {Wf : U → va_W} {x y : Int32} (hM : vx_Met l yX7_pulse wsX7_pulse { frames := 7, cells := 2, slots := 12, locals := 104 } (pcX G tys ws A tE mi [.ref v, .int x, .int y]) (va_Qi (fun (r : Int32) (u : U) => cd = 0 ∧ post r u) (fun u t => va_P G vwCl (Wf u) t.heap ∧ va_D A (Wf u)) A) (xcT (fun E => xC cd eIA "" "" E)) 2 12 A) (hout : cd = 0 → ∀ r u, post r u → ∃ f, (Wf u)[po]? = some (oj, .inl (cJ, 1, .inr (.inl f)))) (n2 : ¬ cd = 2) (n3 : ¬ cd = 3) : Met l yL_pulse wsL_pulse { frames := 8, cells := 2, slots := 12, locals := 126 } (pcX G tys ws A tE mi [.ref v, .int x, .int y, .ref oj]) (va_Qi (fun (r : Int32) (w : va_W) => mid cd ws (okI post Wf po oj cJ) r w) (fun w t => va_P G vwCl w t.heap ∧ va_D A w) A) 2 12 A := by
  refine ofL (cc := cL_pulse) (maxL := 5) (ret := some .int) (hh := [(0, 10, 13, 13)]) (by decide) rfl (Nat.le_of_ble_eq_true rfl) ?_
  intro p e s m below meth c ls hx hb hr hlocks hml hown hts htab hl hP hK hD hA hS hE
  have hown : s.vm.findClass RL = some m.cls := hown
  have hl : lv_has ls 5 [(0, .ref v), (1, .int x), (2, .int y), (3, .ref oj)] := hl
  refine lv_aload_n hx hb dL_pulse_0 rfl (lv_at hl 3 rfl) ?_
  refine lv_iconst (v := 0) hx hb dL_pulse_1 (by decide) ?_
  refine lv_aload_n hx hb dL_pulse_2 rfl (lv_at hl 0 rfl) ?_
  refine lv_iload_n hx hb dL_pulse_3 rfl (lv_at hl 1 rfl) ?_
  refine lv_iload_n hx hb dL_pulse_4 rfl (lv_at hl 2 rfl) ?_
  refine vx_calli (vx_runV (As := [.int x, .int y]) (rest := [.int (0 : Int32), .ref oj]) ⟨hx, hb, hml, hown, hts⟩ hM (cwV 2 hts gL_pulse_X7_pulse rfl rfl rfl (by decide +kernel) ⟨Nat.le_of_ble_eq_true rfl, Nat.le_of_ble_eq_true rfl⟩) ⟨pcX_b, va_recv hK hP (ci := 8) (q0 := pv) rfl hv, pcX_u hP hK hD hS hA hE⟩ rfl rfl hl.1 rfl (lv_room (Nat.le_of_ble_eq_true rfl)) dL_pulse_5 ⟨Nat.le_of_ble_eq_true rfl, Nat.le_of_ble_eq_true rfl⟩) hS (fun q _ h => h) (fun q h => h) (fun q _ h => h.elim) (fun E ce q9 u t H1 locs1 ht hvm _ hu hsz hk1 hS1 hce hcv hcl => ?_) (fun r u t H1 locs1 ht hvm k5 hB hsz hk1 hS1 => ?_)
  · have hP1 : va_P G vwCl ws H1 := hP.kept (fun k x hx => hk1 x.1 ((hP k x hx).lt) id)
    rcases hu with ⟨hcd, rfl⟩ | ⟨hcd, rfl⟩ | ⟨hcd, rfl⟩
    · refine vx_catch (own := RL) (name := "java/lang/IllegalArgumentException") hown [] ⟨0, 10, 13, 13⟩ [] htab (fun z hz => absurd hz List.not_mem_nil) rfl (by decide) (hts (.classLink RL 13 "java/lang/IllegalArgumentException") (List.mem_of_getElem? (i := 1) rfl)) (env_cast hE (by decide)) hce hcv hcl ?_
      refine lv_astore (lv' := [(4, .ref q9), (0, .ref v), (1, .int x), (2, .int y), (3, .ref oj)]) hx hb dL_pulse_13 hl (by decide) rfl (fun ls hl => ?_)
      refine lv_iconst (v := 1) hx hb dL_pulse_15 (by decide) ?_
      refine W.widen (k := 2) (n := 12) (Nat.le_of_ble_eq_true rfl) (Nat.le_of_ble_eq_true rfl) ?_
      exact W.iret (v := 1) hx hb hr (fun t ht hW => ⟨⟨1, ws, rfl, Or.inl ⟨by rw [hcd]; decide, hcd.symm, rfl⟩, by show va_P G vwCl _ t.heap ∧ va_D A _; rw [ht]; exact ⟨hP1, hD⟩⟩, hS1.F ht⟩) hS1.2.2 dL_pulse_16
    · exact absurd hcd n2
    · exact absurd hcd n3
  · rw [ht] at hB
    obtain ⟨hP, hD⟩ := hB
    obtain ⟨hcd, k5⟩ := k5
    obtain ⟨f, ho⟩ := hout hcd r u k5
    refine lv_i2l hx hb dL_pulse_8 rfl ?_
    refine va_last hx hb hK hP hD hS1 po 2 ho htJ in01 dL_pulse_9 (fun H2 locs2 hP hD hS => ?_)
    refine lv_goto (tgt := 17) hx hb dL_pulse_10 (by decide) ?_
    refine lv_iconst (v := 0) hx hb dL_pulse_17 (by decide) ?_
    refine W.widen (k := 2) (n := 12) (Nat.le_of_ble_eq_true rfl) (Nat.le_of_ble_eq_true rfl) ?_
    exact W.iret (v := 0) hx hb hr (fun t ht hW => ⟨⟨0, _, rfl, Or.inr ⟨hcd, rfl, ⟨r, u, f, k5, ho, rfl⟩⟩, by show va_P G vwCl _ t.heap ∧ va_D A _; rw [ht]; exact ⟨hP, hD⟩⟩, hS.F ht⟩) hS.2.2 dL_pulse_18
set_option maxHeartbeats 4000000 in
set_option maxRecDepth 100000 in
theorem metL_bit (l : Launch) (G : va_G) (tys : List (ClassId × FieldType)) {A : Nat → Prop} {tE mi : Nat} {cJ : ClassId} (htJ : tys[2]? = some (cJ, .long)) (ws : va_W) {pv v : Nat} {vs : List Value} (hv : ws[pv]? = some (v, .inr (8, vs))) {po oj : Nat} {U : Type} {cd : Int32} {post : Int32 → U → Prop} {Wf : U → va_W} {x : Int32} (hM : vx_Met l yX7_bit wsX7_bit { frames := 7, cells := 1, slots := 6, locals := 103 } (pcX G tys ws A tE mi [.ref v, .int x]) (va_Qi (fun (r : Int32) (u : U) => cd = 0 ∧ post r u) (fun u t => va_P G vwCl (Wf u) t.heap ∧ va_D A (Wf u)) A) (xcT (fun E => xC cd eIB "" "" E)) 1 6 A) (hout : cd = 0 → ∀ r u, post r u → ∃ f, (Wf u)[po]? = some (oj, .inl (cJ, 1, .inr (.inl f)))) (n2 : ¬ cd = 2) (n3 : ¬ cd = 3) : Met l yL_bit wsL_bit { frames := 8, cells := 1, slots := 6, locals := 124 } (pcX G tys ws A tE mi [.ref v, .int x, .ref oj]) (va_Qi (fun (r : Int32) (w : va_W) => mid cd ws (okI post Wf po oj cJ) r w) (fun w t => va_P G vwCl w t.heap ∧ va_D A w) A) 1 6 A := by
  refine ofL (cc := cL_bit) (maxL := 4) (ret := some .int) (hh := [(0, 9, 12, 20)]) (by decide) rfl (Nat.le_of_ble_eq_true rfl) ?_
  intro p e s m below meth c ls hx hb hr hlocks hml hown hts htab hl hP hK hD hA hS hE
  have hown : s.vm.findClass RL = some m.cls := hown
  have hl : lv_has ls 4 [(0, .ref v), (1, .int x), (2, .ref oj)] := hl
  refine lv_aload_n hx hb dL_bit_0 rfl (lv_at hl 2 rfl) ?_
  refine lv_iconst (v := 0) hx hb dL_bit_1 (by decide) ?_
  refine lv_aload_n hx hb dL_bit_2 rfl (lv_at hl 0 rfl) ?_
  refine lv_iload_n hx hb dL_bit_3 rfl (lv_at hl 1 rfl) ?_
  refine vx_calli (vx_runV (As := [.int x]) (rest := [.int (0 : Int32), .ref oj]) ⟨hx, hb, hml, hown, hts⟩ hM (cwV 1 hts gL_bit_X7_bit rfl rfl rfl (by decide +kernel) ⟨Nat.le_of_ble_eq_true rfl, Nat.le_of_ble_eq_true rfl⟩) ⟨pcX_b, va_recv hK hP (ci := 8) (q0 := pv) rfl hv, pcX_u hP hK hD hS hA hE⟩ rfl rfl hl.1 rfl (lv_room (Nat.le_of_ble_eq_true rfl)) dL_bit_4 ⟨Nat.le_of_ble_eq_true rfl, Nat.le_of_ble_eq_true rfl⟩) hS (fun q _ h => h) (fun q h => h) (fun q _ h => h.elim) (fun E ce q9 u t H1 locs1 ht hvm _ hu hsz hk1 hS1 hce hcv hcl => ?_) (fun r u t H1 locs1 ht hvm k5 hB hsz hk1 hS1 => ?_)
  · have hP1 : va_P G vwCl ws H1 := hP.kept (fun k x hx => hk1 x.1 ((hP k x hx).lt) id)
    rcases hu with ⟨hcd, rfl⟩ | ⟨hcd, rfl⟩ | ⟨hcd, rfl⟩
    · refine vx_catch (own := RL) (name := "java/lang/IndexOutOfBoundsException") hown [] ⟨0, 9, 12, 20⟩ [] htab (fun z hz => absurd hz List.not_mem_nil) rfl (by decide) (hts (.classLink RL 20 "java/lang/IndexOutOfBoundsException") (List.mem_of_getElem? (i := 1) rfl)) (env_cast hE (by decide)) hce hcv hcl ?_
      refine lv_astore_n (lv' := [(3, .ref q9), (0, .ref v), (1, .int x), (2, .ref oj)]) hx hb dL_bit_12 rfl hl (by decide) rfl (fun ls hl => ?_)
      refine lv_iconst (v := 1) hx hb dL_bit_13 (by decide) ?_
      refine W.widen (k := 1) (n := 6) (Nat.le_of_ble_eq_true rfl) (Nat.le_of_ble_eq_true rfl) ?_
      exact W.iret (v := 1) hx hb hr (fun t ht hW => ⟨⟨1, ws, rfl, Or.inl ⟨by rw [hcd]; decide, hcd.symm, rfl⟩, by show va_P G vwCl _ t.heap ∧ va_D A _; rw [ht]; exact ⟨hP1, hD⟩⟩, hS1.F ht⟩) hS1.2.2 dL_bit_14
    · exact absurd hcd n2
    · exact absurd hcd n3
  · rw [ht] at hB
    obtain ⟨hP, hD⟩ := hB
    obtain ⟨hcd, k5⟩ := k5
    obtain ⟨f, ho⟩ := hout hcd r u k5
    refine lv_i2l hx hb dL_bit_7 rfl ?_
    refine va_last hx hb hK hP hD hS1 po 2 ho htJ in01 dL_bit_8 (fun H2 locs2 hP hD hS => ?_)
    refine lv_goto (tgt := 15) hx hb dL_bit_9 (by decide) ?_
    refine lv_iconst (v := 0) hx hb dL_bit_15 (by decide) ?_
    refine W.widen (k := 1) (n := 6) (Nat.le_of_ble_eq_true rfl) (Nat.le_of_ble_eq_true rfl) ?_
    exact W.iret (v := 0) hx hb hr (fun t ht hW => ⟨⟨0, _, rfl, Or.inr ⟨hcd, rfl, ⟨r, u, f, k5, ho, rfl⟩⟩, by show va_P G vwCl _ t.heap ∧ va_D A _; rw [ht]; exact ⟨hP, hD⟩⟩, hS.F ht⟩) hS.2.2 dL_bit_16
set_option maxHeartbeats 4000000 in
set_option maxRecDepth 100000 in
theorem metL_point (l : Launch) (G : va_G) (tys : List (ClassId × FieldType)) {A : Nat → Prop} {tE mi : Nat} {cJ : ClassId} (htJ : tys[2]? = some (cJ, .long)) (ws : va_W) {pv v : Nat} {vs : List Value} (hv : ws[pv]? = some (v, .inr (8, vs))) {po oj : Nat} {U : Type} {cd : Int32} {post : Int32 → U → Prop} {Wf : U → va_W} {x y z : Int32} (hM : vx_Met l yX7_point wsX7_point { frames := 8, cells := 6, slots := 227, locals := 225 } (pcX G tys ws A tE mi [.ref v, .int x, .int y, .int z]) (va_Qi (fun (r : Int32) (u : U) => cd = 0 ∧ post r u) (fun u t => va_P G vwCl (Wf u) t.heap ∧ va_D A (Wf u)) A) (xcT (fun E => xC cd eIA eIS "" E)) 6 227 A) (hout : cd = 0 → ∀ r u, post r u → ∃ f, (Wf u)[po]? = some (oj, .inl (cJ, 1, .inr (.inl f)))) (n3 : ¬ cd = 3) : Met l yL_point wsL_point { frames := 9, cells := 6, slots := 227, locals := 248 } (pcX G tys ws A tE mi [.ref v, .int x, .int y, .int z, .ref oj]) (va_Qi (fun (r : Int32) (w : va_W) => mid cd ws (okI post Wf po oj cJ) r w) (fun w t => va_P G vwCl w t.heap ∧ va_D A w) A) 6 227 A := by
  refine ofL (cc := cL_point) (maxL := 6) (ret := some .int) (hh := [(0, 12, 15, 13), (0, 12, 19, 15)]) (by decide) rfl (Nat.le_of_ble_eq_true rfl) ?_
  intro p e s m below meth c ls hx hb hr hlocks hml hown hts htab hl hP hK hD hA hS hE
  have hown : s.vm.findClass RL = some m.cls := hown
  have hl : lv_has ls 6 [(0, .ref v), (1, .int x), (2, .int y), (3, .int z), (4, .ref oj)] := hl
  refine lv_aload hx hb dL_point_0 (lv_at hl 4 rfl) ?_
  refine lv_iconst (v := 0) hx hb dL_point_2 (by decide) ?_
  refine lv_aload_n hx hb dL_point_3 rfl (lv_at hl 0 rfl) ?_
  refine lv_iload_n hx hb dL_point_4 rfl (lv_at hl 1 rfl) ?_
  refine lv_iload_n hx hb dL_point_5 rfl (lv_at hl 2 rfl) ?_
  refine lv_iload_n hx hb dL_point_6 rfl (lv_at hl 3 rfl) ?_
  refine vx_calli (vx_runV (As := [.int x, .int y, .int z]) (rest := [.int (0 : Int32), .ref oj]) ⟨hx, hb, hml, hown, hts⟩ hM (cwV 3 hts gL_point_X7_point rfl rfl rfl (by decide +kernel) ⟨Nat.le_of_ble_eq_true rfl, Nat.le_of_ble_eq_true rfl⟩) ⟨pcX_b, va_recv hK hP (ci := 8) (q0 := pv) rfl hv, pcX_u hP hK hD hS hA hE⟩ rfl rfl hl.1 rfl (lv_room (Nat.le_of_ble_eq_true rfl)) dL_point_7 ⟨Nat.le_of_ble_eq_true rfl, Nat.le_of_ble_eq_true rfl⟩) hS (fun q _ h => h) (fun q h => h) (fun q _ h => h.elim) (fun E ce q9 u t H1 locs1 ht hvm _ hu hsz hk1 hS1 hce hcv hcl => ?_) (fun r u t H1 locs1 ht hvm k5 hB hsz hk1 hS1 => ?_)
  · have hP1 : va_P G vwCl ws H1 := hP.kept (fun k x hx => hk1 x.1 ((hP k x hx).lt) id)
    rcases hu with ⟨hcd, rfl⟩ | ⟨hcd, rfl⟩ | ⟨hcd, rfl⟩
    · refine vx_catch (own := RL) (name := "java/lang/IllegalArgumentException") hown [] ⟨0, 12, 15, 13⟩ [⟨0, 12, 19, 15⟩] htab (fun z hz => absurd hz List.not_mem_nil) rfl (by decide) (hts (.classLink RL 13 "java/lang/IllegalArgumentException") (List.mem_of_getElem? (i := 1) rfl)) (env_cast hE (by decide)) hce hcv hcl ?_
      refine lv_astore (lv' := [(5, .ref q9), (0, .ref v), (1, .int x), (2, .int y), (3, .int z), (4, .ref oj)]) hx hb dL_point_15 hl (by decide) rfl (fun ls hl => ?_)
      refine lv_iconst (v := 1) hx hb dL_point_17 (by decide) ?_
      refine W.widen (k := 6) (n := 227) (Nat.le_of_ble_eq_true rfl) (Nat.le_of_ble_eq_true rfl) ?_
      exact W.iret (v := 1) hx hb hr (fun t ht hW => ⟨⟨1, ws, rfl, Or.inl ⟨by rw [hcd]; decide, hcd.symm, rfl⟩, by show va_P G vwCl _ t.heap ∧ va_D A _; rw [ht]; exact ⟨hP1, hD⟩⟩, hS1.F ht⟩) hS1.2.2 dL_point_18
    · refine vx_catch (own := RL) (name := "java/lang/IllegalStateException") hown [⟨0, 12, 15, 13⟩] ⟨0, 12, 19, 15⟩ [] htab (fun z hz => by rw [List.mem_singleton.mp hz]; exact Or.inr ⟨by decide, _, (hts (.classLink RL 13 "java/lang/IllegalArgumentException") (List.mem_of_getElem? (i := 1) rfl)), env_nc hE (by decide)⟩) rfl (by decide) (hts (.classLink RL 15 "java/lang/IllegalStateException") (List.mem_of_getElem? (i := 2) rfl)) (env_cast hE (by decide)) hce hcv hcl ?_
      refine lv_astore (lv' := [(5, .ref q9), (0, .ref v), (1, .int x), (2, .int y), (3, .int z), (4, .ref oj)]) hx hb dL_point_19 hl (by decide) rfl (fun ls hl => ?_)
      refine lv_iconst (v := 2) hx hb dL_point_21 (by decide) ?_
      refine W.widen (k := 6) (n := 227) (Nat.le_of_ble_eq_true rfl) (Nat.le_of_ble_eq_true rfl) ?_
      exact W.iret (v := 2) hx hb hr (fun t ht hW => ⟨⟨2, ws, rfl, Or.inl ⟨by rw [hcd]; decide, hcd.symm, rfl⟩, by show va_P G vwCl _ t.heap ∧ va_D A _; rw [ht]; exact ⟨hP1, hD⟩⟩, hS1.F ht⟩) hS1.2.2 dL_point_22
    · exact absurd hcd n3
  · rw [ht] at hB
    obtain ⟨hP, hD⟩ := hB
    obtain ⟨hcd, k5⟩ := k5
    obtain ⟨f, ho⟩ := hout hcd r u k5
    refine lv_i2l hx hb dL_point_10 rfl ?_
    refine va_last hx hb hK hP hD hS1 po 2 ho htJ in01 dL_point_11 (fun H2 locs2 hP hD hS => ?_)
    refine lv_goto (tgt := 23) hx hb dL_point_12 (by decide) ?_
    refine lv_iconst (v := 0) hx hb dL_point_23 (by decide) ?_
    refine W.widen (k := 6) (n := 227) (Nat.le_of_ble_eq_true rfl) (Nat.le_of_ble_eq_true rfl) ?_
    exact W.iret (v := 0) hx hb hr (fun t ht hW => ⟨⟨0, _, rfl, Or.inr ⟨hcd, rfl, ⟨r, u, f, k5, ho, rfl⟩⟩, by show va_P G vwCl _ t.heap ∧ va_D A _; rw [ht]; exact ⟨hP, hD⟩⟩, hS.F ht⟩) hS.2.2 dL_point_24
set_option maxHeartbeats 4000000 in
set_option maxRecDepth 100000 in
theorem metL_claim (l : Launch) (G : va_G) (tys : List (ClassId × FieldType)) {A : Nat → Prop} {tE mi : Nat} {cJ : ClassId} (htJ : tys[2]? = some (cJ, .long)) (ws : va_W) {pv v : Nat} {vs : List Value} (hv : ws[pv]? = some (v, .inr (8, vs))) {po oj : Nat} {U : Type} {cd : Int32} {post : Int32 → U → Prop} {Wf : U → va_W} {x y z : Int32} (hM : vx_Met l yX7_claim wsX7_claim { frames := 8, cells := 8, slots := 242, locals := 225 } (pcX G tys ws A tE mi [.ref v, .int x, .int y, .int z]) (va_Qi (fun (r : Int32) (u : U) => cd = 0 ∧ post r u) (fun u t => va_P G vwCl (Wf u) t.heap ∧ va_D A (Wf u)) A) (xcT (fun E => xC cd eIB eIA eIS E)) 8 242 A) (hout : cd = 0 → ∀ r u, post r u → ∃ f, (Wf u)[po]? = some (oj, .inl (cJ, 1, .inr (.inl f)))) : Met l yL_claim wsL_claim { frames := 9, cells := 8, slots := 242, locals := 248 } (pcX G tys ws A tE mi [.ref v, .int x, .int y, .int z, .ref oj]) (va_Qi (fun (r : Int32) (w : va_W) => mid cd ws (okI post Wf po oj cJ) r w) (fun w t => va_P G vwCl w t.heap ∧ va_D A w) A) 8 242 A := by
  refine ofL (cc := cL_claim) (maxL := 6) (ret := some .int) (hh := [(0, 12, 15, 20), (0, 12, 19, 13), (0, 12, 23, 15)]) (by decide) rfl (Nat.le_of_ble_eq_true rfl) ?_
  intro p e s m below meth c ls hx hb hr hlocks hml hown hts htab hl hP hK hD hA hS hE
  have hown : s.vm.findClass RL = some m.cls := hown
  have hl : lv_has ls 6 [(0, .ref v), (1, .int x), (2, .int y), (3, .int z), (4, .ref oj)] := hl
  refine lv_aload hx hb dL_claim_0 (lv_at hl 4 rfl) ?_
  refine lv_iconst (v := 0) hx hb dL_claim_2 (by decide) ?_
  refine lv_aload_n hx hb dL_claim_3 rfl (lv_at hl 0 rfl) ?_
  refine lv_iload_n hx hb dL_claim_4 rfl (lv_at hl 1 rfl) ?_
  refine lv_iload_n hx hb dL_claim_5 rfl (lv_at hl 2 rfl) ?_
  refine lv_iload_n hx hb dL_claim_6 rfl (lv_at hl 3 rfl) ?_
  refine vx_calli (vx_runV (As := [.int x, .int y, .int z]) (rest := [.int (0 : Int32), .ref oj]) ⟨hx, hb, hml, hown, hts⟩ hM (cwV 3 hts gL_claim_X7_claim rfl rfl rfl (by decide +kernel) ⟨Nat.le_of_ble_eq_true rfl, Nat.le_of_ble_eq_true rfl⟩) ⟨pcX_b, va_recv hK hP (ci := 8) (q0 := pv) rfl hv, pcX_u hP hK hD hS hA hE⟩ rfl rfl hl.1 rfl (lv_room (Nat.le_of_ble_eq_true rfl)) dL_claim_7 ⟨Nat.le_of_ble_eq_true rfl, Nat.le_of_ble_eq_true rfl⟩) hS (fun q _ h => h) (fun q h => h) (fun q _ h => h.elim) (fun E ce q9 u t H1 locs1 ht hvm _ hu hsz hk1 hS1 hce hcv hcl => ?_) (fun r u t H1 locs1 ht hvm k5 hB hsz hk1 hS1 => ?_)
  · have hP1 : va_P G vwCl ws H1 := hP.kept (fun k x hx => hk1 x.1 ((hP k x hx).lt) id)
    rcases hu with ⟨hcd, rfl⟩ | ⟨hcd, rfl⟩ | ⟨hcd, rfl⟩
    · refine vx_catch (own := RL) (name := "java/lang/IndexOutOfBoundsException") hown [] ⟨0, 12, 15, 20⟩ [⟨0, 12, 19, 13⟩, ⟨0, 12, 23, 15⟩] htab (fun z hz => absurd hz List.not_mem_nil) rfl (by decide) (hts (.classLink RL 20 "java/lang/IndexOutOfBoundsException") (List.mem_of_getElem? (i := 1) rfl)) (env_cast hE (by decide)) hce hcv hcl ?_
      refine lv_astore (lv' := [(5, .ref q9), (0, .ref v), (1, .int x), (2, .int y), (3, .int z), (4, .ref oj)]) hx hb dL_claim_15 hl (by decide) rfl (fun ls hl => ?_)
      refine lv_iconst (v := 1) hx hb dL_claim_17 (by decide) ?_
      refine W.widen (k := 8) (n := 242) (Nat.le_of_ble_eq_true rfl) (Nat.le_of_ble_eq_true rfl) ?_
      exact W.iret (v := 1) hx hb hr (fun t ht hW => ⟨⟨1, ws, rfl, Or.inl ⟨by rw [hcd]; decide, hcd.symm, rfl⟩, by show va_P G vwCl _ t.heap ∧ va_D A _; rw [ht]; exact ⟨hP1, hD⟩⟩, hS1.F ht⟩) hS1.2.2 dL_claim_18
    · refine vx_catch (own := RL) (name := "java/lang/IllegalArgumentException") hown [⟨0, 12, 15, 20⟩] ⟨0, 12, 19, 13⟩ [⟨0, 12, 23, 15⟩] htab (fun z hz => by rw [List.mem_singleton.mp hz]; exact Or.inr ⟨by decide, _, (hts (.classLink RL 20 "java/lang/IndexOutOfBoundsException") (List.mem_of_getElem? (i := 1) rfl)), env_nc hE (by decide)⟩) rfl (by decide) (hts (.classLink RL 13 "java/lang/IllegalArgumentException") (List.mem_of_getElem? (i := 2) rfl)) (env_cast hE (by decide)) hce hcv hcl ?_
      refine lv_astore (lv' := [(5, .ref q9), (0, .ref v), (1, .int x), (2, .int y), (3, .int z), (4, .ref oj)]) hx hb dL_claim_19 hl (by decide) rfl (fun ls hl => ?_)
      refine lv_iconst (v := 2) hx hb dL_claim_21 (by decide) ?_
      refine W.widen (k := 8) (n := 242) (Nat.le_of_ble_eq_true rfl) (Nat.le_of_ble_eq_true rfl) ?_
      exact W.iret (v := 2) hx hb hr (fun t ht hW => ⟨⟨2, ws, rfl, Or.inl ⟨by rw [hcd]; decide, hcd.symm, rfl⟩, by show va_P G vwCl _ t.heap ∧ va_D A _; rw [ht]; exact ⟨hP1, hD⟩⟩, hS1.F ht⟩) hS1.2.2 dL_claim_22
    · refine vx_catch (own := RL) (name := "java/lang/IllegalStateException") hown [⟨0, 12, 15, 20⟩, ⟨0, 12, 19, 13⟩] ⟨0, 12, 23, 15⟩ [] htab (fun z hz => (List.mem_cons.mp hz).elim (fun h1 => by rw [h1]; exact Or.inr ⟨by decide, _, (hts (.classLink RL 20 "java/lang/IndexOutOfBoundsException") (List.mem_of_getElem? (i := 1) rfl)), env_nc hE (by decide)⟩) (fun h1 => by rw [List.mem_singleton.mp h1]; exact Or.inr ⟨by decide, _, (hts (.classLink RL 13 "java/lang/IllegalArgumentException") (List.mem_of_getElem? (i := 2) rfl)), env_nc hE (by decide)⟩)) rfl (by decide) (hts (.classLink RL 15 "java/lang/IllegalStateException") (List.mem_of_getElem? (i := 3) rfl)) (env_cast hE (by decide)) hce hcv hcl ?_
      refine lv_astore (lv' := [(5, .ref q9), (0, .ref v), (1, .int x), (2, .int y), (3, .int z), (4, .ref oj)]) hx hb dL_claim_23 hl (by decide) rfl (fun ls hl => ?_)
      refine lv_iconst (v := 3) hx hb dL_claim_25 (by decide) ?_
      refine W.widen (k := 8) (n := 242) (Nat.le_of_ble_eq_true rfl) (Nat.le_of_ble_eq_true rfl) ?_
      exact W.iret (v := 3) hx hb hr (fun t ht hW => ⟨⟨3, ws, rfl, Or.inl ⟨by rw [hcd]; decide, hcd.symm, rfl⟩, by show va_P G vwCl _ t.heap ∧ va_D A _; rw [ht]; exact ⟨hP1, hD⟩⟩, hS1.F ht⟩) hS1.2.2 dL_claim_26
  · rw [ht] at hB
    obtain ⟨hP, hD⟩ := hB
    obtain ⟨hcd, k5⟩ := k5
    obtain ⟨f, ho⟩ := hout hcd r u k5
    refine lv_i2l hx hb dL_claim_10 rfl ?_
    refine va_last hx hb hK hP hD hS1 po 2 ho htJ in01 dL_claim_11 (fun H2 locs2 hP hD hS => ?_)
    refine lv_goto (tgt := 27) hx hb dL_claim_12 (by decide) ?_
    refine lv_iconst (v := 0) hx hb dL_claim_27 (by decide) ?_
    refine W.widen (k := 8) (n := 242) (Nat.le_of_ble_eq_true rfl) (Nat.le_of_ble_eq_true rfl) ?_
    exact W.iret (v := 0) hx hb hr (fun t ht hW => ⟨⟨0, _, rfl, Or.inr ⟨hcd, rfl, ⟨r, u, f, k5, ho, rfl⟩⟩, by show va_P G vwCl _ t.heap ∧ va_D A _; rw [ht]; exact ⟨hP, hD⟩⟩, hS.F ht⟩) hS.2.2 dL_claim_28
set_option maxHeartbeats 4000000 in
set_option maxRecDepth 100000 in
theorem metL_repeats (l : Launch) (G : va_G) (tys : List (ClassId × FieldType)) {A : Nat → Prop} {tE mi : Nat} {cJ : ClassId} (htJ : tys[2]? = some (cJ, .long)) (ws : va_W) {pv v : Nat} {vs : List Value} (hv : ws[pv]? = some (v, .inr (8, vs))) {po oj : Nat} {U : Type} {cd : Int32} {post : Int32 → U → Prop} {Wf : U → va_W} {x y z : Int32} (hM : vx_Met l yX7_repeats wsX7_repeats { frames := 7, cells := 2, slots := 12, locals := 103 } (pcX G tys ws A tE mi [.ref v, .int x, .int y, .int z]) (va_Qi (fun (r : Int32) (u : U) => cd = 0 ∧ post r u) (fun u t => va_P G vwCl (Wf u) t.heap ∧ va_D A (Wf u)) A) (xcT (fun E => xC cd eIB eIB "" E)) 2 12 A) (hout : cd = 0 → ∀ r u, post r u → ∃ f, (Wf u)[po]? = some (oj, .inl (cJ, 1, .inr (.inl f)))) (n2 : ¬ cd = 2) (n3 : ¬ cd = 3) : Met l yL_repeats wsL_repeats { frames := 8, cells := 2, slots := 12, locals := 127 } (pcX G tys ws A tE mi [.ref v, .int x, .int y, .int z, .ref oj]) (va_Qi (fun (r : Int32) (w : va_W) => mid cd ws (okI post Wf po oj cJ) r w) (fun w t => va_P G vwCl w t.heap ∧ va_D A w) A) 2 12 A := by
  refine ofL (cc := cL_repeats) (maxL := 6) (ret := some .int) (hh := [(0, 12, 15, 20)]) (by decide) rfl (Nat.le_of_ble_eq_true rfl) ?_
  intro p e s m below meth c ls hx hb hr hlocks hml hown hts htab hl hP hK hD hA hS hE
  have hown : s.vm.findClass RL = some m.cls := hown
  have hl : lv_has ls 6 [(0, .ref v), (1, .int x), (2, .int y), (3, .int z), (4, .ref oj)] := hl
  refine lv_aload hx hb dL_repeats_0 (lv_at hl 4 rfl) ?_
  refine lv_iconst (v := 0) hx hb dL_repeats_2 (by decide) ?_
  refine lv_aload_n hx hb dL_repeats_3 rfl (lv_at hl 0 rfl) ?_
  refine lv_iload_n hx hb dL_repeats_4 rfl (lv_at hl 1 rfl) ?_
  refine lv_iload_n hx hb dL_repeats_5 rfl (lv_at hl 2 rfl) ?_
  refine lv_iload_n hx hb dL_repeats_6 rfl (lv_at hl 3 rfl) ?_
  refine vx_calli (vx_runV (As := [.int x, .int y, .int z]) (rest := [.int (0 : Int32), .ref oj]) ⟨hx, hb, hml, hown, hts⟩ hM (cwV 3 hts gL_repeats_X7_repeats rfl rfl rfl (by decide +kernel) ⟨Nat.le_of_ble_eq_true rfl, Nat.le_of_ble_eq_true rfl⟩) ⟨pcX_b, va_recv hK hP (ci := 8) (q0 := pv) rfl hv, pcX_u hP hK hD hS hA hE⟩ rfl rfl hl.1 rfl (lv_room (Nat.le_of_ble_eq_true rfl)) dL_repeats_7 ⟨Nat.le_of_ble_eq_true rfl, Nat.le_of_ble_eq_true rfl⟩) hS (fun q _ h => h) (fun q h => h) (fun q _ h => h.elim) (fun E ce q9 u t H1 locs1 ht hvm _ hu hsz hk1 hS1 hce hcv hcl => ?_) (fun r u t H1 locs1 ht hvm k5 hB hsz hk1 hS1 => ?_)
  · have hP1 : va_P G vwCl ws H1 := hP.kept (fun k x hx => hk1 x.1 ((hP k x hx).lt) id)
    rcases hu with ⟨hcd, rfl⟩ | ⟨hcd, rfl⟩ | ⟨hcd, rfl⟩
    · refine vx_catch (own := RL) (name := "java/lang/IndexOutOfBoundsException") hown [] ⟨0, 12, 15, 20⟩ [] htab (fun z hz => absurd hz List.not_mem_nil) rfl (by decide) (hts (.classLink RL 20 "java/lang/IndexOutOfBoundsException") (List.mem_of_getElem? (i := 1) rfl)) (env_cast hE (by decide)) hce hcv hcl ?_
      refine lv_astore (lv' := [(5, .ref q9), (0, .ref v), (1, .int x), (2, .int y), (3, .int z), (4, .ref oj)]) hx hb dL_repeats_15 hl (by decide) rfl (fun ls hl => ?_)
      refine lv_iconst (v := 1) hx hb dL_repeats_17 (by decide) ?_
      refine W.widen (k := 2) (n := 12) (Nat.le_of_ble_eq_true rfl) (Nat.le_of_ble_eq_true rfl) ?_
      exact W.iret (v := 1) hx hb hr (fun t ht hW => ⟨⟨1, ws, rfl, Or.inl ⟨by rw [hcd]; decide, hcd.symm, rfl⟩, by show va_P G vwCl _ t.heap ∧ va_D A _; rw [ht]; exact ⟨hP1, hD⟩⟩, hS1.F ht⟩) hS1.2.2 dL_repeats_18
    · exact absurd hcd n2
    · exact absurd hcd n3
  · rw [ht] at hB
    obtain ⟨hP, hD⟩ := hB
    obtain ⟨hcd, k5⟩ := k5
    obtain ⟨f, ho⟩ := hout hcd r u k5
    refine lv_i2l hx hb dL_repeats_10 rfl ?_
    refine va_last hx hb hK hP hD hS1 po 2 ho htJ in01 dL_repeats_11 (fun H2 locs2 hP hD hS => ?_)
    refine lv_goto (tgt := 19) hx hb dL_repeats_12 (by decide) ?_
    refine lv_iconst (v := 0) hx hb dL_repeats_19 (by decide) ?_
    refine W.widen (k := 2) (n := 12) (Nat.le_of_ble_eq_true rfl) (Nat.le_of_ble_eq_true rfl) ?_
    exact W.iret (v := 0) hx hb hr (fun t ht hW => ⟨⟨0, _, rfl, Or.inr ⟨hcd, rfl, ⟨r, u, f, k5, ho, rfl⟩⟩, by show va_P G vwCl _ t.heap ∧ va_D A _; rw [ht]; exact ⟨hP, hD⟩⟩, hS.F ht⟩) hS.2.2 dL_repeats_20
set_option maxHeartbeats 4000000 in
set_option maxRecDepth 100000 in
theorem metL_judge (l : Launch) (G : va_G) (tys : List (ClassId × FieldType)) {A : Nat → Prop} {tE mi : Nat} {cJ : ClassId} (htJ : tys[2]? = some (cJ, .long)) (ws : va_W) {pv v : Nat} {vs : List Value} (hv : ws[pv]? = some (v, .inr (8, vs))) {po oj : Nat} {U : Type} {cd : Int32} {post : Int32 → U → Prop} {Wf : U → va_W} {x y : Int32} (hM : vx_Met l yX7_judge wsX7_judge { frames := 7, cells := 2, slots := 12, locals := 114 } (pcX G tys ws A tE mi [.ref v, .int x, .int y]) (va_Qi (fun (r : Int32) (u : U) => cd = 0 ∧ post r u) (fun u t => va_P G vwCl (Wf u) t.heap ∧ va_D A (Wf u)) A) (xcT (fun E => xC cd eIB eIA "" E)) 2 12 A) (hout : cd = 0 → ∀ r u, post r u → ∃ f, (Wf u)[po]? = some (oj, .inl (cJ, 1, .inr (.inl f)))) (n3 : ¬ cd = 3) : Met l yL_judge wsL_judge { frames := 8, cells := 2, slots := 12, locals := 136 } (pcX G tys ws A tE mi [.ref v, .int x, .int y, .ref oj]) (va_Qi (fun (r : Int32) (w : va_W) => mid cd ws (okI post Wf po oj cJ) r w) (fun w t => va_P G vwCl w t.heap ∧ va_D A w) A) 2 12 A := by
  refine ofL (cc := cL_judge) (maxL := 5) (ret := some .int) (hh := [(0, 10, 13, 20), (0, 10, 17, 13)]) (by decide) rfl (Nat.le_of_ble_eq_true rfl) ?_
  intro p e s m below meth c ls hx hb hr hlocks hml hown hts htab hl hP hK hD hA hS hE
  have hown : s.vm.findClass RL = some m.cls := hown
  have hl : lv_has ls 5 [(0, .ref v), (1, .int x), (2, .int y), (3, .ref oj)] := hl
  refine lv_aload_n hx hb dL_judge_0 rfl (lv_at hl 3 rfl) ?_
  refine lv_iconst (v := 0) hx hb dL_judge_1 (by decide) ?_
  refine lv_aload_n hx hb dL_judge_2 rfl (lv_at hl 0 rfl) ?_
  refine lv_iload_n hx hb dL_judge_3 rfl (lv_at hl 1 rfl) ?_
  refine lv_iload_n hx hb dL_judge_4 rfl (lv_at hl 2 rfl) ?_
  refine vx_calli (vx_runV (As := [.int x, .int y]) (rest := [.int (0 : Int32), .ref oj]) ⟨hx, hb, hml, hown, hts⟩ hM (cwV 2 hts gL_judge_X7_judge rfl rfl rfl (by decide +kernel) ⟨Nat.le_of_ble_eq_true rfl, Nat.le_of_ble_eq_true rfl⟩) ⟨pcX_b, va_recv hK hP (ci := 8) (q0 := pv) rfl hv, pcX_u hP hK hD hS hA hE⟩ rfl rfl hl.1 rfl (lv_room (Nat.le_of_ble_eq_true rfl)) dL_judge_5 ⟨Nat.le_of_ble_eq_true rfl, Nat.le_of_ble_eq_true rfl⟩) hS (fun q _ h => h) (fun q h => h) (fun q _ h => h.elim) (fun E ce q9 u t H1 locs1 ht hvm _ hu hsz hk1 hS1 hce hcv hcl => ?_) (fun r u t H1 locs1 ht hvm k5 hB hsz hk1 hS1 => ?_)
  · have hP1 : va_P G vwCl ws H1 := hP.kept (fun k x hx => hk1 x.1 ((hP k x hx).lt) id)
    rcases hu with ⟨hcd, rfl⟩ | ⟨hcd, rfl⟩ | ⟨hcd, rfl⟩
    · refine vx_catch (own := RL) (name := "java/lang/IndexOutOfBoundsException") hown [] ⟨0, 10, 13, 20⟩ [⟨0, 10, 17, 13⟩] htab (fun z hz => absurd hz List.not_mem_nil) rfl (by decide) (hts (.classLink RL 20 "java/lang/IndexOutOfBoundsException") (List.mem_of_getElem? (i := 1) rfl)) (env_cast hE (by decide)) hce hcv hcl ?_
      refine lv_astore (lv' := [(4, .ref q9), (0, .ref v), (1, .int x), (2, .int y), (3, .ref oj)]) hx hb dL_judge_13 hl (by decide) rfl (fun ls hl => ?_)
      refine lv_iconst (v := 1) hx hb dL_judge_15 (by decide) ?_
      refine W.widen (k := 2) (n := 12) (Nat.le_of_ble_eq_true rfl) (Nat.le_of_ble_eq_true rfl) ?_
      exact W.iret (v := 1) hx hb hr (fun t ht hW => ⟨⟨1, ws, rfl, Or.inl ⟨by rw [hcd]; decide, hcd.symm, rfl⟩, by show va_P G vwCl _ t.heap ∧ va_D A _; rw [ht]; exact ⟨hP1, hD⟩⟩, hS1.F ht⟩) hS1.2.2 dL_judge_16
    · refine vx_catch (own := RL) (name := "java/lang/IllegalArgumentException") hown [⟨0, 10, 13, 20⟩] ⟨0, 10, 17, 13⟩ [] htab (fun z hz => by rw [List.mem_singleton.mp hz]; exact Or.inr ⟨by decide, _, (hts (.classLink RL 20 "java/lang/IndexOutOfBoundsException") (List.mem_of_getElem? (i := 1) rfl)), env_nc hE (by decide)⟩) rfl (by decide) (hts (.classLink RL 13 "java/lang/IllegalArgumentException") (List.mem_of_getElem? (i := 2) rfl)) (env_cast hE (by decide)) hce hcv hcl ?_
      refine lv_astore (lv' := [(4, .ref q9), (0, .ref v), (1, .int x), (2, .int y), (3, .ref oj)]) hx hb dL_judge_17 hl (by decide) rfl (fun ls hl => ?_)
      refine lv_iconst (v := 2) hx hb dL_judge_19 (by decide) ?_
      refine W.widen (k := 2) (n := 12) (Nat.le_of_ble_eq_true rfl) (Nat.le_of_ble_eq_true rfl) ?_
      exact W.iret (v := 2) hx hb hr (fun t ht hW => ⟨⟨2, ws, rfl, Or.inl ⟨by rw [hcd]; decide, hcd.symm, rfl⟩, by show va_P G vwCl _ t.heap ∧ va_D A _; rw [ht]; exact ⟨hP1, hD⟩⟩, hS1.F ht⟩) hS1.2.2 dL_judge_20
    · exact absurd hcd n3
  · rw [ht] at hB
    obtain ⟨hP, hD⟩ := hB
    obtain ⟨hcd, k5⟩ := k5
    obtain ⟨f, ho⟩ := hout hcd r u k5
    refine lv_i2l hx hb dL_judge_8 rfl ?_
    refine va_last hx hb hK hP hD hS1 po 2 ho htJ in01 dL_judge_9 (fun H2 locs2 hP hD hS => ?_)
    refine lv_goto (tgt := 21) hx hb dL_judge_10 (by decide) ?_
    refine lv_iconst (v := 0) hx hb dL_judge_21 (by decide) ?_
    refine W.widen (k := 2) (n := 12) (Nat.le_of_ble_eq_true rfl) (Nat.le_of_ble_eq_true rfl) ?_
    exact W.iret (v := 0) hx hb hr (fun t ht hW => ⟨⟨0, _, rfl, Or.inr ⟨hcd, rfl, ⟨r, u, f, k5, ho, rfl⟩⟩, by show va_P G vwCl _ t.heap ∧ va_D A _; rw [ht]; exact ⟨hP, hD⟩⟩, hS.F ht⟩) hS.2.2 dL_judge_22
