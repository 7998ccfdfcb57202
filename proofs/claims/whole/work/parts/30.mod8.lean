set_option maxHeartbeats 1000000 in
set_option maxRecDepth 100000 in
theorem metX8_step (l : Launch) (G : va_G) (tys : List (ClassId × FieldType)) {cI : ClassId} (htI : tI tys cI) {A : Nat → Prop} (ws : va_W) {am : Nat} {ad : Nat → Nat} {z : Nat → Int32} {wi dm : Int64} {F : Nat → Nat → Int32} (hm : ws[12]? = some (am, .inr (9, mF ad z wi dm))) (hA18 : ws[18]? = some (ad 18, .inl (cI, 48, .inl (F 18)))) (hA19 : ws[19]? = some (ad 19, .inl (cI, 48, .inl (F 19)))) (hA20 : ws[20]? = some (ad 20, .inl (cI, 20, .inl (F 20)))) {nW : Nat} (hnW : z 9 = nI nW) (hW20 : nW ≤ 20) (hce : ∀ j, ¬ F 20 j = -1 → ¬ uK (F 20 j) 48) : Met l yX8_step wsX8_step ({ frames := 4, cells := 0, slots := 0, locals := 95 }) (pcM G tys ws A [.ref am]) (va_Qi (fun (r : Int32) (_ : Unit) => r = (mSt (F 18) (z 11) (z 12) nW (F 19) (F 20) nW).2) (fun _ t => va_P G vwCl (((ws.set 12 (am, .inr (9, mF ad (upd z 0 0) wi dm))).set 19 (ad 19, .inl (cI, 48, .inl ((mSt (F 18) (z 11) (z 12) nW (F 19) (F 20) nW).1.1)))).set 20 (ad 20, .inl (cI, 20, .inl ((mSt (F 18) (z 11) (z 12) nW (F 19) (F 20) nW).1.2)))) t.heap ∧ va_D A (((ws.set 12 (am, .inr (9, mF ad (upd z 0 0) wi dm))).set 19 (ad 19, .inl (cI, 48, .inl ((mSt (F 18) (z 11) (z 12) nW (F 19) (F 20) nW).1.1)))).set 20 (ad 20, .inl (cI, 20, .inl ((mSt (F 18) (z 11) (z 12) nW (F 19) (F 20) nW).1.2))))) A) 0 0 A := by
  refine ofM (cc := cX8_step) (maxL := 1) (ret := some .int) (by decide) rfl (Nat.le_of_ble_eq_true rfl) ?_
  intro p e s m below meth c ls hx hb hr hlocks hml hown hts hin hl hP hK hD hA hS
  have hown : s.vm.findClass RX8 = some m.cls := hown
  have hiX8 : ∀ w ∈ u_ws RX8 TX8 39, w ∈ wsX8_step := fun _ h => List.mem_cons_of_mem _ (List.mem_append_right _ h)
  have hl : lv_has ls 1 [(0, .ref am)] := hl
  refine lv_aload_n hx hb dX8_step_0 rfl (lv_at hl 0 rfl) ?_
  refine lv_iconst (v := 0) hx hb dX8_step_1 (by decide) ?_
  refine va_put (D := G) (ci := 9) (v := .int (0 : Int32)) (ty := .int) (C := RX8) (T := TX8) (N := 39) hx hb hts hiX8 tyX8 tyX8_ok nmX8 hown hK hP hD hS 12 hm rfl 0 (by decide) (hts (.fieldLink RX8 86 "VortexpinModel" "thrown" "I") (List.mem_of_getElem? (i := 1) rfl)) (fun _ h9 => h9) rfl (by decide +kernel) (rfl) (rfl) (Nat.le_of_ble_eq_true rfl) dX8_step_2 (fun H locs hP hD hS => ?_)
  have hP : va_P G vwCl ((ws).set 12 (am, .inr (9, mF ad (upd z 0 (0 : Int32)) wi dm))) H := hP
  have hD : va_D A ((ws).set 12 (am, .inr (9, mF ad (upd z 0 (0 : Int32)) wi dm))) := hD
  have hA18 := va_gs (k := 12) (e := (am, .inr (9, mF ad (upd z 0 (0 : Int32)) wi dm))) (by decide) hA18
  have hA19 := va_gs (k := 12) (e := (am, .inr (9, mF ad (upd z 0 (0 : Int32)) wi dm))) (by decide) hA19
  have hA20 := va_gs (k := 12) (e := (am, .inr (9, mF ad (upd z 0 (0 : Int32)) wi dm))) (by decide) hA20
  have hm := va_ge (e := (am, .inr (9, mF ad (upd z 0 (0 : Int32)) wi dm))) hm
  refine lv_aload_n hx hb dX8_step_5 rfl (lv_at hl 0 rfl) ?_
  refine va_calli (va_runV (As := []) (rest := []) ⟨hx, hb, hml, hown, hts⟩ (metX8_stepOnce l G tys htI _ (F := F) hm hA18 hA19 hA20 hnW hW20 hce) (cwV 0 hts gX8_step_X8_stepOnce rfl rfl rfl (by decide +kernel) ⟨Nat.le_of_ble_eq_true rfl, Nat.le_of_ble_eq_true rfl⟩) ⟨pcM_b, va_recv hK hP (ci := 9) (q0 := 12) rfl hm, pcM_u hP hK hD hS hA⟩ rfl rfl hl.1 rfl (lv_room (Nat.le_of_ble_eq_true rfl)) dX8_step_6 ⟨Nat.le_of_ble_eq_true rfl, Nat.le_of_ble_eq_true rfl⟩) hS (fun q _ h => h) (fun q h => h) (fun r6 u t H locs ht hvm h6 hB hsz hk1 hS => ?_)
  rw [ht] at hB
  have hB := hB.1
  have hD := hD.set (e := .inl (cI, 48, .inl ((mSt (F 18) (z 11) (z 12) nW (F 19) (F 20) nW).1.1))) hA19
  have hm := va_gs (k := 19) (e := (ad 19, .inl (cI, 48, .inl ((mSt (F 18) (z 11) (z 12) nW (F 19) (F 20) nW).1.1)))) (by decide) hm
  have hA18 := va_gs (k := 19) (e := (ad 19, .inl (cI, 48, .inl ((mSt (F 18) (z 11) (z 12) nW (F 19) (F 20) nW).1.1)))) (by decide) hA18
  have hA20 := va_gs (k := 19) (e := (ad 19, .inl (cI, 48, .inl ((mSt (F 18) (z 11) (z 12) nW (F 19) (F 20) nW).1.1)))) (by decide) hA20
  have hA19 := va_ge (e := (ad 19, .inl (cI, 48, .inl ((mSt (F 18) (z 11) (z 12) nW (F 19) (F 20) nW).1.1)))) hA19
  have hD := hD.set (e := .inl (cI, 20, .inl ((mSt (F 18) (z 11) (z 12) nW (F 19) (F 20) nW).1.2))) hA20
  have hm := va_gs (k := 20) (e := (ad 20, .inl (cI, 20, .inl ((mSt (F 18) (z 11) (z 12) nW (F 19) (F 20) nW).1.2)))) (by decide) hm
  have hA18 := va_gs (k := 20) (e := (ad 20, .inl (cI, 20, .inl ((mSt (F 18) (z 11) (z 12) nW (F 19) (F 20) nW).1.2)))) (by decide) hA18
  have hA19 := va_gs (k := 20) (e := (ad 20, .inl (cI, 20, .inl ((mSt (F 18) (z 11) (z 12) nW (F 19) (F 20) nW).1.2)))) (by decide) hA19
  have hA20 := va_ge (e := (ad 20, .inl (cI, 20, .inl ((mSt (F 18) (z 11) (z 12) nW (F 19) (F 20) nW).1.2)))) hA20
  have hP : va_P G vwCl ((((ws).set 12 (am, .inr (9, mF ad (upd z 0 (0 : Int32)) wi dm))).set 19 (ad 19, .inl (cI, 48, .inl ((mSt (F 18) (z 11) (z 12) nW (F 19) (F 20) nW).1.1)))).set 20 (ad 20, .inl (cI, 20, .inl ((mSt (F 18) (z 11) (z 12) nW (F 19) (F 20) nW).1.2)))) H := hB
  have hD : va_D A ((((ws).set 12 (am, .inr (9, mF ad (upd z 0 (0 : Int32)) wi dm))).set 19 (ad 19, .inl (cI, 48, .inl ((mSt (F 18) (z 11) (z 12) nW (F 19) (F 20) nW).1.1)))).set 20 (ad 20, .inl (cI, 20, .inl ((mSt (F 18) (z 11) (z 12) nW (F 19) (F 20) nW).1.2)))) := hD
  have ew : (((ws).set 12 (am, .inr (9, mF ad (upd z 0 (0 : Int32)) wi dm))).set 19 (ad 19, .inl (cI, 48, .inl ((mSt (F 18) (z 11) (z 12) nW (F 19) (F 20) nW).1.1)))).set 20 (ad 20, .inl (cI, 20, .inl ((mSt (F 18) (z 11) (z 12) nW (F 19) (F 20) nW).1.2))) = ((ws.set 12 (am, .inr (9, mF ad (upd z 0 0) wi dm))).set 19 (ad 19, .inl (cI, 48, .inl ((mSt (F 18) (z 11) (z 12) nW (F 19) (F 20) nW).1.1)))).set 20 (ad 20, .inl (cI, 20, .inl ((mSt (F 18) (z 11) (z 12) nW (F 19) (F 20) nW).1.2))) := by simp only [List.set_set, ↓reduceIte]
  have hP : va_P G vwCl ((((ws).set 12 (am, .inr (9, mF ad (upd z 0 (0 : Int32)) wi dm))).set 19 (ad 19, .inl (cI, 48, .inl ((mSt (F 18) (z 11) (z 12) nW (F 19) (F 20) nW).1.1)))).set 20 (ad 20, .inl (cI, 20, .inl ((mSt (F 18) (z 11) (z 12) nW (F 19) (F 20) nW).1.2)))) H := hP
  have hD : va_D A ((((ws).set 12 (am, .inr (9, mF ad (upd z 0 (0 : Int32)) wi dm))).set 19 (ad 19, .inl (cI, 48, .inl ((mSt (F 18) (z 11) (z 12) nW (F 19) (F 20) nW).1.1)))).set 20 (ad 20, .inl (cI, 20, .inl ((mSt (F 18) (z 11) (z 12) nW (F 19) (F 20) nW).1.2)))) := hD
  rw [ew] at hP hD
  exact W.iret (v := r6) hx hb hr (fun t ht hW => ⟨⟨r6, (), rfl, (h6), by show va_P G vwCl _ t.heap ∧ va_D A _; rw [ht]; exact ⟨hP, hD⟩⟩, hS.F ht⟩) hS.2.2 dX8_step_9
set_option maxHeartbeats 1000000 in
set_option maxRecDepth 100000 in
theorem metX8_avalanche_g (l : Launch) (G : va_G) (tys : List (ClassId × FieldType)) {cI : ClassId} (htI : tI tys cI) {A : Nat → Prop} (ws : va_W) {am : Nat} {ad : Nat → Nat} {z : Nat → Int32} {wi dm : Int64} {F : Nat → Nat → Int32} (hm : ws[12]? = some (am, .inr (9, mF ad z wi dm))) (hA18 : ws[18]? = some (ad 18, .inl (cI, 48, .inl (F 18)))) (hA19 : ws[19]? = some (ad 19, .inl (cI, 48, .inl (F 19)))) (hA20 : ws[20]? = some (ad 20, .inl (cI, 20, .inl (F 20)))) {nW : Nat} (hnW : z 9 = nI nW) (hW20 : nW ≤ 20) {stp : (Nat → Int32) → (Nat → Int32) → ((Nat → Int32) × (Nat → Int32)) × Int32} (hstp : ∀ a b, stp a b = mSt (F 18) (z 11) (z 12) nW a b nW) {s19 s20 : Nat → Nat → Int32} {al nn : Nat → Int32} (h19 : s19 0 = F 19) (h20 : s20 0 = F 20) (hal : al 0 = 0) (hnn : nn 0 = 1) (hgo : ∀ k, ¬ nn k ≤ 0 → s19 (k + 1) = (stp (s19 k) (s20 k)).1.1 ∧ s20 (k + 1) = (stp (s19 k) (s20 k)).1.2 ∧ nn (k + 1) = (stp (s19 k) (s20 k)).2 ∧ al (k + 1) = al k + (stp (s19 k) (s20 k)).2) (hen : ∀ k, k ≤ 60 → nn k ≤ 0 → s19 60 = s19 k ∧ s20 60 = s20 k ∧ al 60 = al k) (hok : ∀ k j, ¬ s20 k j = -1 → ¬ uK (s20 k j) 48) : Met l yX8_avalanche wsX8_avalanche ({ frames := 4, cells := 0, slots := 0, locals := 95 }) (pcM G tys ws A [.ref am]) (va_Qi (fun (r : Int32) (_ : Unit) => r = al 60) (fun _ t => va_P G vwCl (((ws.set 12 (am, .inr (9, mF ad (upd z 0 0) wi dm))).set 19 (ad 19, .inl (cI, 48, .inl (s19 60)))).set 20 (ad 20, .inl (cI, 20, .inl (s20 60)))) t.heap ∧ va_D A (((ws.set 12 (am, .inr (9, mF ad (upd z 0 0) wi dm))).set 19 (ad 19, .inl (cI, 48, .inl (s19 60)))).set 20 (ad 20, .inl (cI, 20, .inl (s20 60))))) A) 0 0 A := by
  refine ofM (cc := cX8_avalanche) (maxL := 4) (ret := some .int) (by decide) rfl (Nat.le_of_ble_eq_true rfl) ?_
  intro p e s m below meth c ls hx hb hr hlocks hml hown hts hin hl hP hK hD hA hS
  have hown : s.vm.findClass RX8 = some m.cls := hown
  have hiX8 : ∀ w ∈ u_ws RX8 TX8 39, w ∈ wsX8_avalanche := fun _ h => List.mem_cons_of_mem _ (List.mem_append_right _ h)
  have hl : lv_has ls 4 [(0, .ref am)] := hl
  refine lv_aload_n hx hb dX8_avalanche_0 rfl (lv_at hl 0 rfl) ?_
  refine lv_iconst (v := 0) hx hb dX8_avalanche_1 (by decide) ?_
  refine va_put (D := G) (ci := 9) (v := .int (0 : Int32)) (ty := .int) (C := RX8) (T := TX8) (N := 39) hx hb hts hiX8 tyX8 tyX8_ok nmX8 hown hK hP hD hS 12 hm rfl 0 (by decide) (hts (.fieldLink RX8 86 "VortexpinModel" "thrown" "I") (List.mem_of_getElem? (i := 1) rfl)) (fun _ h9 => h9) rfl (by decide +kernel) (rfl) (rfl) (Nat.le_of_ble_eq_true rfl) dX8_avalanche_2 (fun H locs hP hD hS => ?_)
  have hP : va_P G vwCl ((ws).set 12 (am, .inr (9, mF ad (upd z 0 (0 : Int32)) wi dm))) H := hP
  have hD : va_D A ((ws).set 12 (am, .inr (9, mF ad (upd z 0 (0 : Int32)) wi dm))) := hD
  have hA18 := va_gs (k := 12) (e := (am, .inr (9, mF ad (upd z 0 (0 : Int32)) wi dm))) (by decide) hA18
  have hA19 := va_gs (k := 12) (e := (am, .inr (9, mF ad (upd z 0 (0 : Int32)) wi dm))) (by decide) hA19
  have hA20 := va_gs (k := 12) (e := (am, .inr (9, mF ad (upd z 0 (0 : Int32)) wi dm))) (by decide) hA20
  have hm := va_ge (e := (am, .inr (9, mF ad (upd z 0 (0 : Int32)) wi dm))) hm
  refine lv_iconst (v := 0) hx hb dX8_avalanche_5 (by decide) ?_
  refine lv_istore_n (lv' := [(1, .int (0 : Int32)), (0, .ref am)]) hx hb dX8_avalanche_6 rfl hl (by decide) rfl (fun ls hl => ?_)
  refine lv_iconst (v := 1) hx hb dX8_avalanche_7 (by decide) ?_
  refine lv_istore_n (lv' := [(2, .int (1 : Int32)), (1, .int (0 : Int32)), (0, .ref am)]) hx hb dX8_avalanche_8 rfl hl (by decide) rfl (fun ls hl => ?_)
  refine lv_iconst (v := 0) hx hb dX8_avalanche_9 (by decide) ?_
  refine lv_istore_n (lv' := [(3, .int (0 : Int32)), (2, .int (1 : Int32)), (1, .int (0 : Int32)), (0, .ref am)]) hx hb dX8_avalanche_10 rfl hl (by decide) rfl (fun ls hl => ?_)
  have hself : ((ws.set 12 (am, .inr (9, mF ad (upd z 0 0) wi dm))).set 19 (ad 19, .inl (cI, 48, .inl (s19 0)))).set 20 (ad 20, .inl (cI, 20, .inl (s20 0))) = ws.set 12 (am, .inr (9, mF ad (upd z 0 0) wi dm)) := by rw [h19, h20, va_self hA19, va_self hA20]
  have hm0 := hm
  have hA180 := hA18
  have hA190 := hA19
  have hA200 := hA20
  have hl : lv_has ls 4 [(3, .int (0 : Int32)), (2, .int (nn 0)), (1, .int (al 0)), (0, .ref am)] := by rw [hal, hnn]; exact hl
  refine loopM 60 11 4 (fun i => [(0, .ref am), (1, .int (al i)), (2, .int (nn i)), (3, .int (nI i))]) (fun i => ((ws.set 12 (am, .inr (9, mF ad (upd z 0 0) wi dm))).set 19 (ad 19, .inl (cI, 48, .inl (s19 i)))).set 20 (ad 20, .inl (cI, 20, .inl (s20 i)))) (fun i => True) (fun i hNi hKi ihi H locs ls hP hD hS hl => ?_) (i0 := 0) (by omega) (trivial) (by rw [hself]; exact hP) (by rw [hself]; exact hD) hS (lv_sub hl [3, 2, 1, 0] rfl)
  have hl : lv_has ls 4 [(0, .ref am), (1, .int (al i)), (2, .int (nn i)), (3, .int (nI i))] := hl
  have hP : va_P G vwCl (((ws.set 12 (am, .inr (9, mF ad (upd z 0 0) wi dm))).set 19 (ad 19, .inl (cI, 48, .inl (s19 i)))).set 20 (ad 20, .inl (cI, 20, .inl (s20 i)))) H := hP
  have hD : va_D A (((ws.set 12 (am, .inr (9, mF ad (upd z 0 0) wi dm))).set 19 (ad 19, .inl (cI, 48, .inl (s19 i)))).set 20 (ad 20, .inl (cI, 20, .inl (s20 i)))) := hD
  have hm := va_gs (k := 20) (e := (ad 20, .inl (cI, 20, .inl (s20 i)))) (by decide) (va_gs (k := 19) (e := (ad 19, .inl (cI, 48, .inl (s19 i)))) (by decide) hm0)
  have hA18 := va_gs (k := 20) (e := (ad 20, .inl (cI, 20, .inl (s20 i)))) (by decide) (va_gs (k := 19) (e := (ad 19, .inl (cI, 48, .inl (s19 i)))) (by decide) hA180)
  have hA19 := va_gs (k := 20) (e := (ad 20, .inl (cI, 20, .inl (s20 i)))) (by decide) (va_ge (e := (ad 19, .inl (cI, 48, .inl (s19 i)))) hA190)
  have hA20 : (((ws.set 12 (am, .inr (9, mF ad (upd z 0 0) wi dm))).set 19 (ad 19, .inl (cI, 48, .inl (s19 i)))).set 20 (ad 20, .inl (cI, 20, .inl (s20 i))))[20]? = _ := va_ge (e := (ad 20, .inl (cI, 20, .inl (s20 i)))) (va_gs (k := 19) (e := (ad 19, .inl (cI, 48, .inl (s19 i)))) (by decide) hA200)
  refine lv_iload_n hx hb dX8_avalanche_11 rfl (lv_at hl 3 rfl) ?_
  refine lv_bipush (v := 60) hx hb dX8_avalanche_12 (by decide) ?_
  refine lv_icmp_ge (tgt := 36) hx hb dX8_avalanche_14 (by decide) (fun c14 => ?_) (fun c14 => ?_)
  · have heqi : i = 60 := Nat.le_antisymm hNi ((nI_leI (by omega) (by omega)).mp c14)
    refine lv_iload_n hx hb dX8_avalanche_36 rfl (lv_at hl 1 rfl) ?_
    subst heqi
    exact W.iret (v := al 60) hx hb hr (fun t ht hW => ⟨⟨al 60, (), rfl, (rfl), by show va_P G vwCl _ t.heap ∧ va_D A _; rw [ht]; exact ⟨hP, hD⟩⟩, hS.F ht⟩) hS.2.2 dX8_avalanche_37
  · have hlti : i < 60 := Nat.lt_of_not_le (mt (nI_leI (by omega) (by omega)).mpr c14)
    refine lv_iload_n hx hb dX8_avalanche_17 rfl (lv_at hl 2 rfl) ?_
    refine lv_if_le (tgt := 36) hx hb dX8_avalanche_18 (by decide) (fun c18 => ?_) (fun c18 => ?_)
    · refine lv_iload_n hx hb dX8_avalanche_36 rfl (lv_at hl 1 rfl) ?_
      obtain ⟨y1, y2, y3⟩ := hen i hNi c18
      rw [← y1, ← y2] at hP hD
      exact W.iret (v := al i) hx hb hr (fun t ht hW => ⟨⟨al i, (), rfl, (y3.symm), by show va_P G vwCl _ t.heap ∧ va_D A _; rw [ht]; exact ⟨hP, hD⟩⟩, hS.F ht⟩) hS.2.2 dX8_avalanche_37
    · refine lv_aload_n hx hb dX8_avalanche_21 rfl (lv_at hl 0 rfl) ?_
      obtain ⟨F1, e18, e19, e20⟩ : ∃ F1 : Nat → Nat → Int32, F1 18 = F 18 ∧ F1 19 = s19 i ∧ F1 20 = s20 i := ⟨updF (updF F 19 (s19 i)) 20 (s20 i), rfl, rfl, rfl⟩
      obtain ⟨z1, ez, ez9, ez11, ez12⟩ : ∃ z1 : Nat → Int32, z1 = upd z 0 0 ∧ z1 9 = z 9 ∧ z1 11 = z 11 ∧ z1 12 = z 12 := ⟨upd z 0 0, rfl, rfl, rfl, rfl⟩
      have hmm := metX8_stepOnce l G tys htI (A := A) _ (z := z1) (F := F1) (by rw [ez]; exact hm) (by rw [e18]; exact hA18) (by rw [e19]; exact hA19) (by rw [e20]; exact hA20) (nW := nW) (by rw [ez9]; exact hnW) hW20 (by rw [e20]; exact hok i)
      simp only [e18, e19, e20, ez11, ez12] at hmm
      simp only [← hstp] at hmm
      refine va_calli (va_runV (As := []) (rest := []) ⟨hx, hb, hml, hown, hts⟩ (hmm) (cwV 0 hts gX8_avalanche_X8_stepOnce rfl rfl rfl (by decide +kernel) ⟨Nat.le_of_ble_eq_true rfl, Nat.le_of_ble_eq_true rfl⟩) ⟨pcM_b, va_recv hK hP (ci := 9) (q0 := 12) rfl hm, pcM_u hP hK hD hS hA⟩ rfl rfl hl.1 rfl (lv_room (Nat.le_of_ble_eq_true rfl)) dX8_avalanche_22 ⟨Nat.le_of_ble_eq_true rfl, Nat.le_of_ble_eq_true rfl⟩) hS (fun q _ h => h) (fun q h => h) (fun r22 u t H locs ht hvm h22 hB hsz hk1 hS => ?_)
      rw [ht] at hB
      have hB := hB.1
      have hD := hD.set (e := .inl (cI, 48, .inl ((stp (s19 i) (s20 i)).1.1))) hA19
      have hm := va_gs (k := 19) (e := (ad 19, .inl (cI, 48, .inl ((stp (s19 i) (s20 i)).1.1)))) (by decide) hm
      have hA18 := va_gs (k := 19) (e := (ad 19, .inl (cI, 48, .inl ((stp (s19 i) (s20 i)).1.1)))) (by decide) hA18
      have hA20 := va_gs (k := 19) (e := (ad 19, .inl (cI, 48, .inl ((stp (s19 i) (s20 i)).1.1)))) (by decide) hA20
      have hA19 := va_ge (e := (ad 19, .inl (cI, 48, .inl ((stp (s19 i) (s20 i)).1.1)))) hA19
      have hD := hD.set (e := .inl (cI, 20, .inl ((stp (s19 i) (s20 i)).1.2))) hA20
      have hm := va_gs (k := 20) (e := (ad 20, .inl (cI, 20, .inl ((stp (s19 i) (s20 i)).1.2)))) (by decide) hm
      have hA18 := va_gs (k := 20) (e := (ad 20, .inl (cI, 20, .inl ((stp (s19 i) (s20 i)).1.2)))) (by decide) hA18
      have hA19 := va_gs (k := 20) (e := (ad 20, .inl (cI, 20, .inl ((stp (s19 i) (s20 i)).1.2)))) (by decide) hA19
      have hA20 := va_ge (e := (ad 20, .inl (cI, 20, .inl ((stp (s19 i) (s20 i)).1.2)))) hA20
      have hP : va_P G vwCl (((((ws.set 12 (am, .inr (9, mF ad (upd z 0 0) wi dm))).set 19 (ad 19, .inl (cI, 48, .inl (s19 i)))).set 20 (ad 20, .inl (cI, 20, .inl (s20 i)))).set 19 (ad 19, .inl (cI, 48, .inl ((stp (s19 i) (s20 i)).1.1)))).set 20 (ad 20, .inl (cI, 20, .inl ((stp (s19 i) (s20 i)).1.2)))) H := hB
      have hD : va_D A (((((ws.set 12 (am, .inr (9, mF ad (upd z 0 0) wi dm))).set 19 (ad 19, .inl (cI, 48, .inl (s19 i)))).set 20 (ad 20, .inl (cI, 20, .inl (s20 i)))).set 19 (ad 19, .inl (cI, 48, .inl ((stp (s19 i) (s20 i)).1.1)))).set 20 (ad 20, .inl (cI, 20, .inl ((stp (s19 i) (s20 i)).1.2)))) := hD
      refine lv_istore_n (lv' := [(2, .int r22), (0, .ref am), (1, .int (al i)), (3, .int (nI i))]) hx hb dX8_avalanche_25 rfl hl (by decide) rfl (fun ls hl => ?_)
      refine lv_iload_n hx hb dX8_avalanche_26 rfl (lv_at hl 2 rfl) ?_
      refine lv_iload_n hx hb dX8_avalanche_27 rfl (lv_at hl 0 rfl) ?_
      refine lv_iadd hx hb dX8_avalanche_28 ?_
      refine lv_istore_n (lv' := [(1, .int ((al i) + r22)), (2, .int r22), (0, .ref am), (3, .int (nI i))]) hx hb dX8_avalanche_29 rfl hl (by decide) rfl (fun ls hl => ?_)
      refine lv_iinc (v := nI (i + 1)) (lv' := [(3, .int (nI (i + 1))), (1, .int ((al i) + r22)), (2, .int r22), (0, .ref am)]) hx hb dX8_avalanche_30 hl (k := 3) rfl (nI_1 i) (by decide) rfl (fun ls hl => ?_)
      refine lv_goto (tgt := 11) hx hb dX8_avalanche_33 (by decide) ?_
      have ea1 : (al i) + r22 = al (i + 1) := by rw [(hgo i c18).2.2.2, ← h22]
      rw [ea1] at hl
      have ea2 : r22 = nn (i + 1) := by rw [(hgo i c18).2.2.1, ← h22]
      rw [ea2] at hl
      have ew : ((((ws.set 12 (am, .inr (9, mF ad (upd z 0 0) wi dm))).set 19 (ad 19, .inl (cI, 48, .inl (s19 i)))).set 20 (ad 20, .inl (cI, 20, .inl (s20 i)))).set 19 (ad 19, .inl (cI, 48, .inl ((stp (s19 i) (s20 i)).1.1)))).set 20 (ad 20, .inl (cI, 20, .inl ((stp (s19 i) (s20 i)).1.2))) = ((ws.set 12 (am, .inr (9, mF ad (upd z 0 0) wi dm))).set 19 (ad 19, .inl (cI, 48, .inl (s19 (i + 1))))).set 20 (ad 20, .inl (cI, 20, .inl (s20 (i + 1)))) := by rw [set_abab (by decide), (hgo i c18).1, (hgo i c18).2.1]
      have hP : va_P G vwCl (((((ws.set 12 (am, .inr (9, mF ad (upd z 0 0) wi dm))).set 19 (ad 19, .inl (cI, 48, .inl (s19 i)))).set 20 (ad 20, .inl (cI, 20, .inl (s20 i)))).set 19 (ad 19, .inl (cI, 48, .inl ((stp (s19 i) (s20 i)).1.1)))).set 20 (ad 20, .inl (cI, 20, .inl ((stp (s19 i) (s20 i)).1.2)))) H := hP
      have hD : va_D A (((((ws.set 12 (am, .inr (9, mF ad (upd z 0 0) wi dm))).set 19 (ad 19, .inl (cI, 48, .inl (s19 i)))).set 20 (ad 20, .inl (cI, 20, .inl (s20 i)))).set 19 (ad 19, .inl (cI, 48, .inl ((stp (s19 i) (s20 i)).1.1)))).set 20 (ad 20, .inl (cI, 20, .inl ((stp (s19 i) (s20 i)).1.2)))) := hD
      rw [ew] at hP hD
      exact ihi H _ ls hlti (trivial) hP hD hS (lv_sub hl [3, 1, 2, 0] rfl)
