theorem mh_ix2 {x h : Int32} (hx : ¬ uK x (nI 8)) (hh : ¬ uK h 7) : 7 * x + h = nI (7 * x.toNatClampNeg + h.toNatClampNeg) ∧ 7 * x.toNatClampNeg + h.toNatClampNeg < 56 := by
  obtain ⟨e1, e2⟩ := uK_ix (n := 7) hh
  rw [e1]
  have k := mh_ix hx e2
  rw [nI_clamp (by omega)]
  exact k
set_option maxHeartbeats 1000000 in
set_option maxRecDepth 100000 in
theorem metX8_whirlAt (l : Launch) (G : va_G) (tys : List (ClassId × FieldType)) {cI : ClassId} (htI : tI tys cI) {A : Nat → Prop} (ws : va_W) {am : Nat} {ad : Nat → Nat} {z : Nat → Int32} {wi dm : Int64} {F : Nat → Nat → Int32} (hm : ws[12]? = some (am, .inr (9, mF ad z wi dm))) (hA20 : ws[20]? = some (ad 20, .inl (cI, 20, .inl (F 20)))) {nW : Nat} (hz9 : z 9 = nI nW) (h60nW : nW ≤ 20) (x : Int32) : Met l yX8_whirlAt wsX8_whirlAt ({ frames := 1, cells := 0, slots := 0, locals := 22 }) (pcM G tys ws A [.ref am, .int x]) (va_Qi (fun (r : Int32) (_ : Unit) => cdOne x (nI nW) = 0 → r = F 20 x.toNatClampNeg) (fun _ t => va_P G vwCl (if cdOne x (nI nW) = 0 then (ws).set 12 (am, .inr (9, mF ad (upd z 0 (0 : Int32)) wi dm)) else ws.set 12 (am, .inr (9, mF ad (upd z 0 (cdOne x (nI nW))) wi dm))) t.heap ∧ va_D A (if cdOne x (nI nW) = 0 then (ws).set 12 (am, .inr (9, mF ad (upd z 0 (0 : Int32)) wi dm)) else ws.set 12 (am, .inr (9, mF ad (upd z 0 (cdOne x (nI nW))) wi dm)))) A) 0 0 A := by
  refine ofM (cc := cX8_whirlAt) (maxL := 2) (ret := some .int) (by decide) rfl (Nat.le_of_ble_eq_true rfl) ?_
  intro p e s m below meth c ls hx hb hr hlocks hml hown hts hin hl hP hK hD hA hS
  have hown : s.vm.findClass RX8 = some m.cls := hown
  have hiX8 : ∀ w ∈ u_ws RX8 TX8 39, w ∈ wsX8_whirlAt := fun _ h => List.mem_cons_of_mem _ (List.mem_append_right _ h)
  have hl : lv_has ls 2 [(0, .ref am), (1, .int x)] := hl
  refine lv_aload_n hx hb dX8_whirlAt_0 rfl (lv_at hl 0 rfl) ?_
  refine lv_iconst (v := 0) hx hb dX8_whirlAt_1 (by decide) ?_
  refine va_put (D := G) (ci := 9) (v := .int (0 : Int32)) (ty := .int) (C := RX8) (T := TX8) (N := 39) hx hb hts hiX8 tyX8 tyX8_ok nmX8 hown hK hP hD hS 12 hm rfl 0 (by decide) (hts (.fieldLink RX8 86 "VortexpinModel" "thrown" "I") (List.mem_of_getElem? (i := 1) rfl)) (fun _ h9 => h9) rfl (by decide +kernel) (rfl) (rfl) (Nat.le_of_ble_eq_true rfl) dX8_whirlAt_2 (fun H locs hP hD hS => ?_)
  have hP : va_P G vwCl ((ws).set 12 (am, .inr (9, mF ad (upd z 0 (0 : Int32)) wi dm))) H := hP
  have hD : va_D A ((ws).set 12 (am, .inr (9, mF ad (upd z 0 (0 : Int32)) wi dm))) := hD
  have hA20 := va_gs (k := 12) (e := (am, .inr (9, mF ad (upd z 0 (0 : Int32)) wi dm))) (by decide) hA20
  have hm := va_ge (e := (am, .inr (9, mF ad (upd z 0 (0 : Int32)) wi dm))) hm
  refine lv_iload_n hx hb dX8_whirlAt_5 rfl (lv_at hl 1 rfl) ?_
  refine lv_iconst (v := 0) hx hb dX8_whirlAt_6 (by decide) ?_
  refine lv_aload_n hx hb dX8_whirlAt_7 rfl (lv_at hl 0 rfl) ?_
  refine va_get (D := G) (ci := 9) (v := .int (z 9)) (C := RX8) (T := TX8) (N := 39) hx hb hts hiX8 hown hK hP 12 hm rfl 9 (by decide) (hts (.fieldLink RX8 115 "VortexpinModel" "whirls" "I") (List.mem_of_getElem? (i := 2) rfl)) (fun _ h9 => h9) rfl dX8_whirlAt_8 ?_
  refine lv_iconst (v := 1) hx hb dX8_whirlAt_11 (by decide) ?_
  refine lv_isub hx hb dX8_whirlAt_12 ?_
  refine vp_callSi (va_Run.run (va_runS (As := [.int x, .int (0 : Int32), .int ((z 9) - (1 : Int32))]) (rest := []) ⟨hx, hb, hml, hown, hts⟩ (metX8_in l x (0 : Int32) ((z 9) - (1 : Int32))) (va_cwS 3 hts gX8_whirlAt_X8_in rfl rfl rfl (by decide +kernel) ⟨Nat.le_of_ble_eq_true rfl, Nat.le_of_ble_eq_true rfl⟩) ⟨pc0_b, pc0_u⟩ rfl rfl hl.1 rfl (lv_room (Nat.le_of_ble_eq_true rfl)) dX8_whirlAt_13 ⟨Nat.le_of_ble_eq_true rfl, Nat.le_of_ble_eq_true rfl⟩)) (fun r13 h13 => ?_)
  refine lv_if_eq (tgt := 28) hx hb dX8_whirlAt_16 (by decide) (fun c16 => ?_) (fun c16 => ?_)
  · have hbd : uK x (nI nW) := (oR_uK (by rw [hz9]) (show nW < 2 ^ 31 by omega)).mp (mIn_0.mp (h13.symm.trans c16))
    skip
    refine lv_aload_n hx hb dX8_whirlAt_28 rfl (lv_at hl 0 rfl) ?_
    refine lv_iconst (v := 1) hx hb dX8_whirlAt_29 (by decide) ?_
    refine va_calli (va_runV (As := [.int (1 : Int32)]) (rest := []) ⟨hx, hb, hml, hown, hts⟩ (metX8_stop l G tys _ hm (1 : Int32)) (cwV 1 hts gX8_whirlAt_X8_stop rfl rfl rfl (by decide +kernel) ⟨Nat.le_of_ble_eq_true rfl, Nat.le_of_ble_eq_true rfl⟩) ⟨pcM_b, va_recv hK hP (ci := 9) (q0 := 12) rfl hm, pcM_u hP hK hD hS hA⟩ rfl rfl hl.1 rfl (lv_room (Nat.le_of_ble_eq_true rfl)) dX8_whirlAt_30 ⟨Nat.le_of_ble_eq_true rfl, Nat.le_of_ble_eq_true rfl⟩) hS (fun q _ h => h) (fun q h => h) (fun r30 u t H locs ht hvm h30 hB hsz hk1 hS => ?_)
    rw [ht] at hB
    have hB := hB.1
    have hD := hD.set (e := .inr (9, mF ad (upd (upd z 0 (0 : Int32)) 0 (1 : Int32)) wi dm)) hm
    have hA20 := va_gs (k := 12) (e := (am, .inr (9, mF ad (upd (upd z 0 (0 : Int32)) 0 (1 : Int32)) wi dm))) (by decide) hA20
    have hm := va_ge (e := (am, .inr (9, mF ad (upd (upd z 0 (0 : Int32)) 0 (1 : Int32)) wi dm))) hm
    have hP : va_P G vwCl (((ws).set 12 (am, .inr (9, mF ad (upd z 0 (0 : Int32)) wi dm))).set 12 (am, .inr (9, mF ad (upd (upd z 0 (0 : Int32)) 0 (1 : Int32)) wi dm))) H := hB
    have hD : va_D A (((ws).set 12 (am, .inr (9, mF ad (upd z 0 (0 : Int32)) wi dm))).set 12 (am, .inr (9, mF ad (upd (upd z 0 (0 : Int32)) 0 (1 : Int32)) wi dm))) := hD
    have hcd : cdOne x (nI nW) = 1 := by unfold cdOne; rw [if_pos hbd]
    have ew : ((ws).set 12 (am, .inr (9, mF ad (upd z 0 (0 : Int32)) wi dm))).set 12 (am, .inr (9, mF ad (upd (upd z 0 (0 : Int32)) 0 (1 : Int32)) wi dm)) = (if cdOne x (nI nW) = 0 then (ws).set 12 (am, .inr (9, mF ad (upd z 0 (0 : Int32)) wi dm)) else ws.set 12 (am, .inr (9, mF ad (upd z 0 (cdOne x (nI nW))) wi dm))) := by rw [hcd, if_neg (by decide), List.set_set, upd_upd]
    have hP : va_P G vwCl (((ws).set 12 (am, .inr (9, mF ad (upd z 0 (0 : Int32)) wi dm))).set 12 (am, .inr (9, mF ad (upd (upd z 0 (0 : Int32)) 0 (1 : Int32)) wi dm))) H := hP
    have hD : va_D A (((ws).set 12 (am, .inr (9, mF ad (upd z 0 (0 : Int32)) wi dm))).set 12 (am, .inr (9, mF ad (upd (upd z 0 (0 : Int32)) 0 (1 : Int32)) wi dm))) := hD
    rw [ew] at hP hD
    exact W.iret (v := r30) hx hb hr (fun t ht hW => ⟨⟨r30, (), rfl, (fun h0 => absurd (hcd.symm.trans h0) (by decide)), by show va_P G vwCl _ t.heap ∧ va_D A _; rw [ht]; exact ⟨hP, hD⟩⟩, hS.F ht⟩) hS.2.2 dX8_whirlAt_33
  · have k0 : ¬ (uK x (nI nW)) := fun q9 => c16 (h13.trans (mIn_0.mpr ((oR_uK (by rw [hz9]) (show nW < 2 ^ 31 by omega)).mpr q9)))
    refine lv_aload_n hx hb dX8_whirlAt_19 rfl (lv_at hl 0 rfl) ?_
    refine va_get (D := G) (ci := 9) (v := .ref (ad 20)) (C := RX8) (T := TX8) (N := 39) hx hb hts hiX8 hown hK hP 12 hm rfl 10 (by decide) (hts (.fieldLink RX8 31 "VortexpinModel" "cellOf" "[I") (List.mem_of_getElem? (i := 3) rfl)) (fun _ h9 => h9) rfl dX8_whirlAt_20 ?_
    refine lv_iload_n hx hb dX8_whirlAt_23 rfl (lv_at hl 1 rfl) ?_
    refine va_iald hx hb hK hP 20 0 hA20 htI (vp_uK (n := 20) (fun q9 => k0 (uK_up q9 h60nW (by decide)))) dX8_whirlAt_24 ?_
    refine lv_goto (tgt := 33) hx hb dX8_whirlAt_25 (by decide) ?_
    have hcd : cdOne x (nI nW) = 0 := by unfold cdOne; rw [if_neg k0]
    have ew : (ws).set 12 (am, .inr (9, mF ad (upd z 0 (0 : Int32)) wi dm)) = (if cdOne x (nI nW) = 0 then (ws).set 12 (am, .inr (9, mF ad (upd z 0 (0 : Int32)) wi dm)) else ws.set 12 (am, .inr (9, mF ad (upd z 0 (cdOne x (nI nW))) wi dm))) := by rw [hcd, if_pos rfl]
    have hP : va_P G vwCl ((ws).set 12 (am, .inr (9, mF ad (upd z 0 (0 : Int32)) wi dm))) H := hP
    have hD : va_D A ((ws).set 12 (am, .inr (9, mF ad (upd z 0 (0 : Int32)) wi dm))) := hD
    rw [ew] at hP hD
    exact W.iret (v := (F 20) x.toNatClampNeg) hx hb hr (fun t ht hW => ⟨⟨(F 20) x.toNatClampNeg, (), rfl, (fun _ => rfl), by show va_P G vwCl _ t.heap ∧ va_D A _; rw [ht]; exact ⟨hP, hD⟩⟩, hS.F ht⟩) hS.2.2 dX8_whirlAt_33
set_option maxHeartbeats 1000000 in
set_option maxRecDepth 100000 in
theorem metX8_energy (l : Launch) (G : va_G) (tys : List (ClassId × FieldType)) {cI : ClassId} (htI : tI tys cI) {A : Nat → Prop} (ws : va_W) {am : Nat} {ad : Nat → Nat} {z : Nat → Int32} {wi dm : Int64} {F : Nat → Nat → Int32} (hm : ws[12]? = some (am, .inr (9, mF ad z wi dm))) (hA18 : ws[18]? = some (ad 18, .inl (cI, 48, .inl (F 18)))) (hA20 : ws[20]? = some (ad 20, .inl (cI, 20, .inl (F 20)))) {nW : Nat} (hz9 : z 9 = nI nW) (h60nW : nW ≤ 20) (hce : ∀ j, ¬ F 20 j = -1 → ¬ uK (F 20 j) 48) (x : Int32) : Met l yX8_energy wsX8_energy ({ frames := 2, cells := 0, slots := 0, locals := 45 }) (pcM G tys ws A [.ref am, .int x]) (va_Qi (fun (r : Int32) (_ : Unit) => cdOne x (nI nW) = 0 → r = (if F 20 x.toNatClampNeg = -1 then 0 else mEn (F 20) (F 18) (z 11) x nW (F 20 x.toNatClampNeg))) (fun _ t => va_P G vwCl (if cdOne x (nI nW) = 0 then (ws).set 12 (am, .inr (9, mF ad (upd z 0 (0 : Int32)) wi dm)) else ws.set 12 (am, .inr (9, mF ad (upd z 0 (cdOne x (nI nW))) wi dm))) t.heap ∧ va_D A (if cdOne x (nI nW) = 0 then (ws).set 12 (am, .inr (9, mF ad (upd z 0 (0 : Int32)) wi dm)) else ws.set 12 (am, .inr (9, mF ad (upd z 0 (cdOne x (nI nW))) wi dm)))) A) 0 0 A := by
  refine ofM (cc := cX8_energy) (maxL := 2) (ret := some .int) (by decide) rfl (Nat.le_of_ble_eq_true rfl) ?_
  intro p e s m below meth c ls hx hb hr hlocks hml hown hts hin hl hP hK hD hA hS
  have hown : s.vm.findClass RX8 = some m.cls := hown
  have hiX8 : ∀ w ∈ u_ws RX8 TX8 39, w ∈ wsX8_energy := fun _ h => List.mem_cons_of_mem _ (List.mem_append_right _ h)
  have hl : lv_has ls 2 [(0, .ref am), (1, .int x)] := hl
  refine lv_aload_n hx hb dX8_energy_0 rfl (lv_at hl 0 rfl) ?_
  refine lv_iconst (v := 0) hx hb dX8_energy_1 (by decide) ?_
  refine va_put (D := G) (ci := 9) (v := .int (0 : Int32)) (ty := .int) (C := RX8) (T := TX8) (N := 39) hx hb hts hiX8 tyX8 tyX8_ok nmX8 hown hK hP hD hS 12 hm rfl 0 (by decide) (hts (.fieldLink RX8 86 "VortexpinModel" "thrown" "I") (List.mem_of_getElem? (i := 1) rfl)) (fun _ h9 => h9) rfl (by decide +kernel) (rfl) (rfl) (Nat.le_of_ble_eq_true rfl) dX8_energy_2 (fun H locs hP hD hS => ?_)
  have hP : va_P G vwCl ((ws).set 12 (am, .inr (9, mF ad (upd z 0 (0 : Int32)) wi dm))) H := hP
  have hD : va_D A ((ws).set 12 (am, .inr (9, mF ad (upd z 0 (0 : Int32)) wi dm))) := hD
  have hA18 := va_gs (k := 12) (e := (am, .inr (9, mF ad (upd z 0 (0 : Int32)) wi dm))) (by decide) hA18
  have hA20 := va_gs (k := 12) (e := (am, .inr (9, mF ad (upd z 0 (0 : Int32)) wi dm))) (by decide) hA20
  have hm := va_ge (e := (am, .inr (9, mF ad (upd z 0 (0 : Int32)) wi dm))) hm
  refine lv_iload_n hx hb dX8_energy_5 rfl (lv_at hl 1 rfl) ?_
  refine lv_iconst (v := 0) hx hb dX8_energy_6 (by decide) ?_
  refine lv_aload_n hx hb dX8_energy_7 rfl (lv_at hl 0 rfl) ?_
  refine va_get (D := G) (ci := 9) (v := .int (z 9)) (C := RX8) (T := TX8) (N := 39) hx hb hts hiX8 hown hK hP 12 hm rfl 9 (by decide) (hts (.fieldLink RX8 115 "VortexpinModel" "whirls" "I") (List.mem_of_getElem? (i := 2) rfl)) (fun _ h9 => h9) rfl dX8_energy_8 ?_
  refine lv_iconst (v := 1) hx hb dX8_energy_11 (by decide) ?_
  refine lv_isub hx hb dX8_energy_12 ?_
  refine vp_callSi (va_Run.run (va_runS (As := [.int x, .int (0 : Int32), .int ((z 9) - (1 : Int32))]) (rest := []) ⟨hx, hb, hml, hown, hts⟩ (metX8_in l x (0 : Int32) ((z 9) - (1 : Int32))) (va_cwS 3 hts gX8_energy_X8_in rfl rfl rfl (by decide +kernel) ⟨Nat.le_of_ble_eq_true rfl, Nat.le_of_ble_eq_true rfl⟩) ⟨pc0_b, pc0_u⟩ rfl rfl hl.1 rfl (lv_room (Nat.le_of_ble_eq_true rfl)) dX8_energy_13 ⟨Nat.le_of_ble_eq_true rfl, Nat.le_of_ble_eq_true rfl⟩)) (fun r13 h13 => ?_)
  refine lv_if_ne (tgt := 25) hx hb dX8_energy_16 (by decide) (fun c16 => ?_) (fun c16 => ?_)
  · have k0 : ¬ (uK x (nI nW)) := fun q9 => c16 (h13.trans (mIn_0.mpr ((oR_uK (by rw [hz9]) (show nW < 2 ^ 31 by omega)).mpr q9)))
    refine lv_aload_n hx hb dX8_energy_25 rfl (lv_at hl 0 rfl) ?_
    refine va_get (D := G) (ci := 9) (v := .ref (ad 20)) (C := RX8) (T := TX8) (N := 39) hx hb hts hiX8 hown hK hP 12 hm rfl 10 (by decide) (hts (.fieldLink RX8 31 "VortexpinModel" "cellOf" "[I") (List.mem_of_getElem? (i := 3) rfl)) (fun _ h9 => h9) rfl dX8_energy_26 ?_
    refine lv_iload_n hx hb dX8_energy_29 rfl (lv_at hl 1 rfl) ?_
    refine va_iald hx hb hK hP 20 0 hA20 htI (vp_uK (n := 20) (fun q9 => k0 (uK_up q9 h60nW (by decide)))) dX8_energy_30 ?_
    refine lv_iconst (v := -1) hx hb dX8_energy_31 (by decide) ?_
    refine lv_icmp_ne (tgt := 39) hx hb dX8_energy_32 (by decide) (fun c32 => ?_) (fun c32 => ?_)
    · refine lv_aload_n hx hb dX8_energy_39 rfl (lv_at hl 0 rfl) ?_
      refine lv_iload_n hx hb dX8_energy_40 rfl (lv_at hl 1 rfl) ?_
      refine lv_aload_n hx hb dX8_energy_41 rfl (lv_at hl 0 rfl) ?_
      refine va_get (D := G) (ci := 9) (v := .ref (ad 20)) (C := RX8) (T := TX8) (N := 39) hx hb hts hiX8 hown hK hP 12 hm rfl 10 (by decide) (hts (.fieldLink RX8 31 "VortexpinModel" "cellOf" "[I") (List.mem_of_getElem? (i := 3) rfl)) (fun _ h9 => h9) rfl dX8_energy_42 ?_
      refine lv_iload_n hx hb dX8_energy_45 rfl (lv_at hl 1 rfl) ?_
      refine va_iald hx hb hK hP 20 0 hA20 htI (vp_uK (n := 20) (fun q9 => k0 (uK_up q9 h60nW (by decide)))) dX8_energy_46 ?_
      refine vp_callSi (va_Run.run (va_runV (As := [.int x, .int ((F 20) x.toNatClampNeg)]) (rest := []) ⟨hx, hb, hml, hown, hts⟩ (metX8_energyAt l G tys htI _ hm hA18 hA20 (nW := nW) hz9 h60nW x ((F 20) x.toNatClampNeg) (hce _ c32)) (cwV 2 hts gX8_energy_X8_energyAt rfl rfl rfl (by decide +kernel) ⟨Nat.le_of_ble_eq_true rfl, Nat.le_of_ble_eq_true rfl⟩) ⟨pcR_b, va_recv hK hP (ci := 9) (q0 := 12) rfl hm, pcR_u hP hK⟩ rfl rfl hl.1 rfl (lv_room (Nat.le_of_ble_eq_true rfl)) dX8_energy_47 ⟨Nat.le_of_ble_eq_true rfl, Nat.le_of_ble_eq_true rfl⟩)) (fun r47 h47 => ?_)
      have h47 : r47 = mEn (F 20) (F 18) (z 11) x nW (F 20 x.toNatClampNeg) := h47
      have hcd : cdOne x (nI nW) = 0 := by unfold cdOne; rw [if_neg k0]
      have ew : (ws).set 12 (am, .inr (9, mF ad (upd z 0 (0 : Int32)) wi dm)) = (if cdOne x (nI nW) = 0 then (ws).set 12 (am, .inr (9, mF ad (upd z 0 (0 : Int32)) wi dm)) else ws.set 12 (am, .inr (9, mF ad (upd z 0 (cdOne x (nI nW))) wi dm))) := by rw [hcd, if_pos rfl]
      have hP : va_P G vwCl ((ws).set 12 (am, .inr (9, mF ad (upd z 0 (0 : Int32)) wi dm))) H := hP
      have hD : va_D A ((ws).set 12 (am, .inr (9, mF ad (upd z 0 (0 : Int32)) wi dm))) := hD
      rw [ew] at hP hD
      exact W.iret (v := r47) hx hb hr (fun t ht hW => ⟨⟨r47, (), rfl, (fun _ => by subst h13; subst h47; simp only [c16, c32, ↓reduceIte, not_true_eq_false, not_false_eq_true]), by show va_P G vwCl _ t.heap ∧ va_D A _; rw [ht]; exact ⟨hP, hD⟩⟩, hS.F ht⟩) hS.2.2 dX8_energy_50
    · refine lv_iconst (v := 0) hx hb dX8_energy_35 (by decide) ?_
      refine lv_goto (tgt := 50) hx hb dX8_energy_36 (by decide) ?_
      have hcd : cdOne x (nI nW) = 0 := by unfold cdOne; rw [if_neg k0]
      have ew : (ws).set 12 (am, .inr (9, mF ad (upd z 0 (0 : Int32)) wi dm)) = (if cdOne x (nI nW) = 0 then (ws).set 12 (am, .inr (9, mF ad (upd z 0 (0 : Int32)) wi dm)) else ws.set 12 (am, .inr (9, mF ad (upd z 0 (cdOne x (nI nW))) wi dm))) := by rw [hcd, if_pos rfl]
      have hP : va_P G vwCl ((ws).set 12 (am, .inr (9, mF ad (upd z 0 (0 : Int32)) wi dm))) H := hP
      have hD : va_D A ((ws).set 12 (am, .inr (9, mF ad (upd z 0 (0 : Int32)) wi dm))) := hD
      rw [ew] at hP hD
      exact W.iret (v := (0 : Int32)) hx hb hr (fun t ht hW => ⟨⟨(0 : Int32), (), rfl, (fun _ => by subst h13; simp only [c16, (eq_true c32), ↓reduceIte, not_true_eq_false, not_false_eq_true]), by show va_P G vwCl _ t.heap ∧ va_D A _; rw [ht]; exact ⟨hP, hD⟩⟩, hS.F ht⟩) hS.2.2 dX8_energy_50
  · have hbd : uK x (nI nW) := (oR_uK (by rw [hz9]) (show nW < 2 ^ 31 by omega)).mp (mIn_0.mp (h13.symm.trans c16))
    skip
    refine lv_aload_n hx hb dX8_energy_19 rfl (lv_at hl 0 rfl) ?_
    refine lv_iconst (v := 1) hx hb dX8_energy_20 (by decide) ?_
    refine va_calli (va_runV (As := [.int (1 : Int32)]) (rest := []) ⟨hx, hb, hml, hown, hts⟩ (metX8_stop l G tys _ hm (1 : Int32)) (cwV 1 hts gX8_energy_X8_stop rfl rfl rfl (by decide +kernel) ⟨Nat.le_of_ble_eq_true rfl, Nat.le_of_ble_eq_true rfl⟩) ⟨pcM_b, va_recv hK hP (ci := 9) (q0 := 12) rfl hm, pcM_u hP hK hD hS hA⟩ rfl rfl hl.1 rfl (lv_room (Nat.le_of_ble_eq_true rfl)) dX8_energy_21 ⟨Nat.le_of_ble_eq_true rfl, Nat.le_of_ble_eq_true rfl⟩) hS (fun q _ h => h) (fun q h => h) (fun r21 u t H locs ht hvm h21 hB hsz hk1 hS => ?_)
    rw [ht] at hB
    have hB := hB.1
    have hD := hD.set (e := .inr (9, mF ad (upd (upd z 0 (0 : Int32)) 0 (1 : Int32)) wi dm)) hm
    have hA18 := va_gs (k := 12) (e := (am, .inr (9, mF ad (upd (upd z 0 (0 : Int32)) 0 (1 : Int32)) wi dm))) (by decide) hA18
    have hA20 := va_gs (k := 12) (e := (am, .inr (9, mF ad (upd (upd z 0 (0 : Int32)) 0 (1 : Int32)) wi dm))) (by decide) hA20
    have hm := va_ge (e := (am, .inr (9, mF ad (upd (upd z 0 (0 : Int32)) 0 (1 : Int32)) wi dm))) hm
    have hP : va_P G vwCl (((ws).set 12 (am, .inr (9, mF ad (upd z 0 (0 : Int32)) wi dm))).set 12 (am, .inr (9, mF ad (upd (upd z 0 (0 : Int32)) 0 (1 : Int32)) wi dm))) H := hB
    have hD : va_D A (((ws).set 12 (am, .inr (9, mF ad (upd z 0 (0 : Int32)) wi dm))).set 12 (am, .inr (9, mF ad (upd (upd z 0 (0 : Int32)) 0 (1 : Int32)) wi dm))) := hD
    have hcd : cdOne x (nI nW) = 1 := by unfold cdOne; rw [if_pos hbd]
    have ew : ((ws).set 12 (am, .inr (9, mF ad (upd z 0 (0 : Int32)) wi dm))).set 12 (am, .inr (9, mF ad (upd (upd z 0 (0 : Int32)) 0 (1 : Int32)) wi dm)) = (if cdOne x (nI nW) = 0 then (ws).set 12 (am, .inr (9, mF ad (upd z 0 (0 : Int32)) wi dm)) else ws.set 12 (am, .inr (9, mF ad (upd z 0 (cdOne x (nI nW))) wi dm))) := by rw [hcd, if_neg (by decide), List.set_set, upd_upd]
    have hP : va_P G vwCl (((ws).set 12 (am, .inr (9, mF ad (upd z 0 (0 : Int32)) wi dm))).set 12 (am, .inr (9, mF ad (upd (upd z 0 (0 : Int32)) 0 (1 : Int32)) wi dm))) H := hP
    have hD : va_D A (((ws).set 12 (am, .inr (9, mF ad (upd z 0 (0 : Int32)) wi dm))).set 12 (am, .inr (9, mF ad (upd (upd z 0 (0 : Int32)) 0 (1 : Int32)) wi dm))) := hD
    rw [ew] at hP hD
    exact W.iret (v := r21) hx hb hr (fun t ht hW => ⟨⟨r21, (), rfl, (fun h0 => absurd (hcd.symm.trans h0) (by decide)), by show va_P G vwCl _ t.heap ∧ va_D A _; rw [ht]; exact ⟨hP, hD⟩⟩, hS.F ht⟩) hS.2.2 dX8_energy_24
set_option maxHeartbeats 1000000 in
set_option maxRecDepth 100000 in
theorem metX8_repeats (l : Launch) (G : va_G) (tys : List (ClassId × FieldType)) {cI : ClassId} (htI : tI tys cI) {A : Nat → Prop} (ws : va_W) {am : Nat} {ad : Nat → Nat} {z : Nat → Int32} {wi dm : Int64} {F : Nat → Nat → Int32} (hm : ws[12]? = some (am, .inr (9, mF ad z wi dm))) (hA35 : ws[35]? = some (ad 35, .inl (cI, 56, .inl (F 35)))) {nC : Nat} (hz33 : z 33 = nI nC) (h60nC : nC ≤ 8) (x h d : Int32) : Met l yX8_repeats wsX8_repeats ({ frames := 1, cells := 0, slots := 0, locals := 24 }) (pcM G tys ws A [.ref am, .int x, .int h, .int d]) (va_Qi (fun (r : Int32) (_ : Unit) => cdRepeats x h (nI nC) = 0 → r = mHou (upd (F 35) (7 * x.toNatClampNeg + h.toNatClampNeg) (if d = 0 then 2 else 1)) (7 * x.toNatClampNeg) 1 7) (fun _ t => va_P G vwCl (if cdRepeats x h (nI nC) = 0 then (ws.set 12 (am, .inr (9, mF ad (upd z 0 0) wi dm))).set 35 (ad 35, .inl (cI, 56, .inl (upd (F 35) (7 * x.toNatClampNeg + h.toNatClampNeg) (if d = 0 then 2 else 1)))) else ws.set 12 (am, .inr (9, mF ad (upd z 0 (cdRepeats x h (nI nC))) wi dm))) t.heap ∧ va_D A (if cdRepeats x h (nI nC) = 0 then (ws.set 12 (am, .inr (9, mF ad (upd z 0 0) wi dm))).set 35 (ad 35, .inl (cI, 56, .inl (upd (F 35) (7 * x.toNatClampNeg + h.toNatClampNeg) (if d = 0 then 2 else 1)))) else ws.set 12 (am, .inr (9, mF ad (upd z 0 (cdRepeats x h (nI nC))) wi dm)))) A) 0 0 A := by
  refine ofM (cc := cX8_repeats) (maxL := 4) (ret := some .int) (by decide) rfl (Nat.le_of_ble_eq_true rfl) ?_
  intro p e s m below meth c ls hx hb hr hlocks hml hown hts hin hl hP hK hD hA hS
  have hown : s.vm.findClass RX8 = some m.cls := hown
  have hiX8 : ∀ w ∈ u_ws RX8 TX8 39, w ∈ wsX8_repeats := fun _ h => List.mem_cons_of_mem _ (List.mem_append_right _ h)
  have hl : lv_has ls 4 [(0, .ref am), (1, .int x), (2, .int h), (3, .int d)] := hl
  refine lv_aload_n hx hb dX8_repeats_0 rfl (lv_at hl 0 rfl) ?_
  refine lv_iconst (v := 0) hx hb dX8_repeats_1 (by decide) ?_
  refine va_put (D := G) (ci := 9) (v := .int (0 : Int32)) (ty := .int) (C := RX8) (T := TX8) (N := 39) hx hb hts hiX8 tyX8 tyX8_ok nmX8 hown hK hP hD hS 12 hm rfl 0 (by decide) (hts (.fieldLink RX8 86 "VortexpinModel" "thrown" "I") (List.mem_of_getElem? (i := 1) rfl)) (fun _ h9 => h9) rfl (by decide +kernel) (rfl) (rfl) (Nat.le_of_ble_eq_true rfl) dX8_repeats_2 (fun H locs hP hD hS => ?_)
  have hP : va_P G vwCl ((ws).set 12 (am, .inr (9, mF ad (upd z 0 (0 : Int32)) wi dm))) H := hP
  have hD : va_D A ((ws).set 12 (am, .inr (9, mF ad (upd z 0 (0 : Int32)) wi dm))) := hD
  have hA35 := va_gs (k := 12) (e := (am, .inr (9, mF ad (upd z 0 (0 : Int32)) wi dm))) (by decide) hA35
  have hm := va_ge (e := (am, .inr (9, mF ad (upd z 0 (0 : Int32)) wi dm))) hm
  refine lv_iload_n hx hb dX8_repeats_5 rfl (lv_at hl 1 rfl) ?_
  refine lv_iconst (v := 0) hx hb dX8_repeats_6 (by decide) ?_
  refine lv_aload_n hx hb dX8_repeats_7 rfl (lv_at hl 0 rfl) ?_
  refine va_get (D := G) (ci := 9) (v := .int (z 33)) (C := RX8) (T := TX8) (N := 39) hx hb hts hiX8 hown hK hP 12 hm rfl 33 (by decide) (hts (.fieldLink RX8 192 "VortexpinModel" "claims" "I") (List.mem_of_getElem? (i := 2) rfl)) (fun _ h9 => h9) rfl dX8_repeats_8 ?_
  refine lv_iconst (v := 1) hx hb dX8_repeats_11 (by decide) ?_
  refine lv_isub hx hb dX8_repeats_12 ?_
  refine vp_callSi (va_Run.run (va_runS (As := [.int x, .int (0 : Int32), .int ((z 33) - (1 : Int32))]) (rest := []) ⟨hx, hb, hml, hown, hts⟩ (metX8_in l x (0 : Int32) ((z 33) - (1 : Int32))) (va_cwS 3 hts gX8_repeats_X8_in rfl rfl rfl (by decide +kernel) ⟨Nat.le_of_ble_eq_true rfl, Nat.le_of_ble_eq_true rfl⟩) ⟨pc0_b, pc0_u⟩ rfl rfl hl.1 rfl (lv_room (Nat.le_of_ble_eq_true rfl)) dX8_repeats_13 ⟨Nat.le_of_ble_eq_true rfl, Nat.le_of_ble_eq_true rfl⟩)) (fun r13 h13 => ?_)
  refine lv_if_eq (tgt := 29) hx hb dX8_repeats_16 (by decide) (fun c16 => ?_) (fun c16 => ?_)
  · have hbd : uK x (nI nC) := (oR_uK (by rw [hz33]) (show nC < 2 ^ 31 by omega)).mp (mIn_0.mp (h13.symm.trans c16))
    skip
    refine lv_aload_n hx hb dX8_repeats_29 rfl (lv_at hl 0 rfl) ?_
    refine lv_iconst (v := 1) hx hb dX8_repeats_30 (by decide) ?_
    refine va_calli (va_runV (As := [.int (1 : Int32)]) (rest := []) ⟨hx, hb, hml, hown, hts⟩ (metX8_stop l G tys _ hm (1 : Int32)) (cwV 1 hts gX8_repeats_X8_stop rfl rfl rfl (by decide +kernel) ⟨Nat.le_of_ble_eq_true rfl, Nat.le_of_ble_eq_true rfl⟩) ⟨pcM_b, va_recv hK hP (ci := 9) (q0 := 12) rfl hm, pcM_u hP hK hD hS hA⟩ rfl rfl hl.1 rfl (lv_room (Nat.le_of_ble_eq_true rfl)) dX8_repeats_31 ⟨Nat.le_of_ble_eq_true rfl, Nat.le_of_ble_eq_true rfl⟩) hS (fun q _ h => h) (fun q h => h) (fun r31 u t H locs ht hvm h31 hB hsz hk1 hS => ?_)
    rw [ht] at hB
    have hB := hB.1
    have hD := hD.set (e := .inr (9, mF ad (upd (upd z 0 (0 : Int32)) 0 (1 : Int32)) wi dm)) hm
    have hA35 := va_gs (k := 12) (e := (am, .inr (9, mF ad (upd (upd z 0 (0 : Int32)) 0 (1 : Int32)) wi dm))) (by decide) hA35
    have hm := va_ge (e := (am, .inr (9, mF ad (upd (upd z 0 (0 : Int32)) 0 (1 : Int32)) wi dm))) hm
    have hP : va_P G vwCl (((ws).set 12 (am, .inr (9, mF ad (upd z 0 (0 : Int32)) wi dm))).set 12 (am, .inr (9, mF ad (upd (upd z 0 (0 : Int32)) 0 (1 : Int32)) wi dm))) H := hB
    have hD : va_D A (((ws).set 12 (am, .inr (9, mF ad (upd z 0 (0 : Int32)) wi dm))).set 12 (am, .inr (9, mF ad (upd (upd z 0 (0 : Int32)) 0 (1 : Int32)) wi dm))) := hD
    have hcd : cdRepeats x h (nI nC) = 1 := by unfold cdRepeats; rw [if_pos hbd]
    have ew : ((ws).set 12 (am, .inr (9, mF ad (upd z 0 (0 : Int32)) wi dm))).set 12 (am, .inr (9, mF ad (upd (upd z 0 (0 : Int32)) 0 (1 : Int32)) wi dm)) = (if cdRepeats x h (nI nC) = 0 then (ws.set 12 (am, .inr (9, mF ad (upd z 0 0) wi dm))).set 35 (ad 35, .inl (cI, 56, .inl (upd (F 35) (7 * x.toNatClampNeg + h.toNatClampNeg) (if d = 0 then 2 else 1)))) else ws.set 12 (am, .inr (9, mF ad (upd z 0 (cdRepeats x h (nI nC))) wi dm))) := by rw [hcd, if_neg (by decide), List.set_set, upd_upd]
    have hP : va_P G vwCl (((ws).set 12 (am, .inr (9, mF ad (upd z 0 (0 : Int32)) wi dm))).set 12 (am, .inr (9, mF ad (upd (upd z 0 (0 : Int32)) 0 (1 : Int32)) wi dm))) H := hP
    have hD : va_D A (((ws).set 12 (am, .inr (9, mF ad (upd z 0 (0 : Int32)) wi dm))).set 12 (am, .inr (9, mF ad (upd (upd z 0 (0 : Int32)) 0 (1 : Int32)) wi dm))) := hD
    rw [ew] at hP hD
    exact W.iret (v := r31) hx hb hr (fun t ht hW => ⟨⟨r31, (), rfl, (fun h0 => absurd (hcd.symm.trans h0) (by decide)), by show va_P G vwCl _ t.heap ∧ va_D A _; rw [ht]; exact ⟨hP, hD⟩⟩, hS.F ht⟩) hS.2.2 dX8_repeats_34
  · have k0 : ¬ (uK x (nI nC)) := fun q9 => c16 (h13.trans (mIn_0.mpr ((oR_uK (by rw [hz33]) (show nC < 2 ^ 31 by omega)).mpr q9)))
    refine lv_iload_n hx hb dX8_repeats_19 rfl (lv_at hl 2 rfl) ?_
    refine lv_iconst (v := 0) hx hb dX8_repeats_20 (by decide) ?_
    refine lv_bipush (v := 6) hx hb dX8_repeats_21 (by decide) ?_
    refine vp_callSi (va_Run.run (va_runS (As := [.int h, .int (0 : Int32), .int (6 : Int32)]) (rest := []) ⟨hx, hb, hml, hown, hts⟩ (metX8_in l h (0 : Int32) (6 : Int32)) (va_cwS 3 hts gX8_repeats_X8_in rfl rfl rfl (by decide +kernel) ⟨Nat.le_of_ble_eq_true rfl, Nat.le_of_ble_eq_true rfl⟩) ⟨pc0_b, pc0_u⟩ rfl rfl hl.1 rfl (lv_room (Nat.le_of_ble_eq_true rfl)) dX8_repeats_23 ⟨Nat.le_of_ble_eq_true rfl, Nat.le_of_ble_eq_true rfl⟩)) (fun r23 h23 => ?_)
    refine lv_if_ne (tgt := 35) hx hb dX8_repeats_26 (by decide) (fun c26 => ?_) (fun c26 => ?_)
    · have k1 : ¬ (uK h 7) := fun q9 => c26 (h23.trans (mIn_0.mpr ((oR_uK (k := 7) (by decide : (6 : Int32) = nI 7 - 1) (by decide)).mpr q9)))
      refine lv_aload_n hx hb dX8_repeats_35 rfl (lv_at hl 0 rfl) ?_
      refine va_get (D := G) (ci := 9) (v := .ref (ad 35)) (C := RX8) (T := TX8) (N := 39) hx hb hts hiX8 hown hK hP 12 hm rfl 38 (by decide) (hts (.fieldLink RX8 83 "VortexpinModel" "house" "[I") (List.mem_of_getElem? (i := 3) rfl)) (fun _ h9 => h9) rfl dX8_repeats_36 ?_
      refine lv_bipush (v := 7) hx hb dX8_repeats_39 (by decide) ?_
      refine lv_iload_n hx hb dX8_repeats_41 rfl (lv_at hl 1 rfl) ?_
      refine lv_imul hx hb dX8_repeats_42 ?_
      refine lv_iload_n hx hb dX8_repeats_43 rfl (lv_at hl 2 rfl) ?_
      refine lv_iadd hx hb dX8_repeats_44 ?_
      refine re_i (y := nI (7 * x.toNatClampNeg + h.toNatClampNeg)) (mh_ix2 (fun q9 => k0 (uK_up q9 h60nC (by decide))) k1).1 ?_
      refine lv_iload_n hx hb dX8_repeats_45 rfl (lv_at hl 3 rfl) ?_
      refine lv_if_eq (tgt := 53) hx hb dX8_repeats_46 (by decide) (fun c46 => ?_) (fun c46 => ?_)
      · refine lv_iconst (v := 2) hx hb dX8_repeats_53 (by decide) ?_
        refine va_iast hx hb hK hP hD hS 35 0 hA35 htI (vp_in_nI (mh_ix2 (fun q9 => k0 (uK_up q9 h60nC (by decide))) k1).2 (by have := (mh_ix2 (fun q9 => k0 (uK_up q9 h60nC (by decide))) k1).2; omega)) dX8_repeats_54 (fun H locs hP hD hS => ?_)
        have hm := va_gs (k := 35) (e := (ad 35, .inl (cI, 56, .inl (upd (F 35) (nI (7 * x.toNatClampNeg + h.toNatClampNeg)).toNatClampNeg (2 : Int32))))) (by decide) hm
        have hA35 := va_ge (e := (ad 35, .inl (cI, 56, .inl (upd (F 35) (nI (7 * x.toNatClampNeg + h.toNatClampNeg)).toNatClampNeg (2 : Int32))))) hA35
        refine lv_aload_n hx hb dX8_repeats_55 rfl (lv_at hl 0 rfl) ?_
        refine lv_iload_n hx hb dX8_repeats_56 rfl (lv_at hl 1 rfl) ?_
        refine lv_iconst (v := 1) hx hb dX8_repeats_57 (by decide) ?_
        refine vp_callSi (va_Run.run (va_runV (As := [.int x, .int (1 : Int32)]) (rest := []) ⟨hx, hb, hml, hown, hts⟩ (metX8_houses l G tys htI _ (F := (updF F 35 (upd (F 35) (nI (7 * x.toNatClampNeg + h.toNatClampNeg)).toNatClampNeg (2 : Int32)))) hm hA35 x (1 : Int32) (fun q9 => k0 (uK_up q9 h60nC (by decide)))) (cwV 2 hts gX8_repeats_X8_houses rfl rfl rfl (by decide +kernel) ⟨Nat.le_of_ble_eq_true rfl, Nat.le_of_ble_eq_true rfl⟩) ⟨pcR_b, va_recv hK hP (ci := 9) (q0 := 12) rfl hm, pcR_u hP hK⟩ rfl rfl hl.1 rfl (lv_room (Nat.le_of_ble_eq_true rfl)) dX8_repeats_58 ⟨Nat.le_of_ble_eq_true rfl, Nat.le_of_ble_eq_true rfl⟩)) (fun r58 h58 => ?_)
        have hcd : cdRepeats x h (nI nC) = 0 := by unfold cdRepeats; rw [if_neg k0, if_neg k1]
        have ew : ((ws).set 12 (am, .inr (9, mF ad (upd z 0 (0 : Int32)) wi dm))).set 35 (ad 35, .inl (cI, 56, .inl (upd (F 35) (nI (7 * x.toNatClampNeg + h.toNatClampNeg)).toNatClampNeg (2 : Int32)))) = (if cdRepeats x h (nI nC) = 0 then (ws.set 12 (am, .inr (9, mF ad (upd z 0 0) wi dm))).set 35 (ad 35, .inl (cI, 56, .inl (upd (F 35) (7 * x.toNatClampNeg + h.toNatClampNeg) (if d = 0 then 2 else 1)))) else ws.set 12 (am, .inr (9, mF ad (upd z 0 (cdRepeats x h (nI nC))) wi dm))) := by rw [hcd, if_pos rfl]; rw [nI_clamp (show 7 * x.toNatClampNeg + h.toNatClampNeg < 2 ^ 31 by have := (mh_ix2 (fun q9 => k0 (uK_up q9 h60nC (by decide))) k1).2; omega)]; simp only [c46, ↓reduceIte]
        have hP : va_P G vwCl (((ws).set 12 (am, .inr (9, mF ad (upd z 0 (0 : Int32)) wi dm))).set 35 (ad 35, .inl (cI, 56, .inl (upd (F 35) (nI (7 * x.toNatClampNeg + h.toNatClampNeg)).toNatClampNeg (2 : Int32))))) H := hP
        have hD : va_D A (((ws).set 12 (am, .inr (9, mF ad (upd z 0 (0 : Int32)) wi dm))).set 35 (ad 35, .inl (cI, 56, .inl (upd (F 35) (nI (7 * x.toNatClampNeg + h.toNatClampNeg)).toNatClampNeg (2 : Int32))))) := hD
        rw [ew] at hP hD
        exact W.iret (v := r58) hx hb hr (fun t ht hW => ⟨⟨r58, (), rfl, (fun _ => (h58.trans (by rw [nI_clamp (show 7 * x.toNatClampNeg + h.toNatClampNeg < 2 ^ 31 by have := (mh_ix2 (fun q9 => k0 (uK_up q9 h60nC (by decide))) k1).2; omega)]; simp only [c46, ↓reduceIte]; rfl))), by show va_P G vwCl _ t.heap ∧ va_D A _; rw [ht]; exact ⟨hP, hD⟩⟩, hS.F ht⟩) hS.2.2 dX8_repeats_61
      · refine lv_iconst (v := 1) hx hb dX8_repeats_49 (by decide) ?_
        refine lv_goto (tgt := 54) hx hb dX8_repeats_50 (by decide) ?_
        refine va_iast hx hb hK hP hD hS 35 0 hA35 htI (vp_in_nI (mh_ix2 (fun q9 => k0 (uK_up q9 h60nC (by decide))) k1).2 (by have := (mh_ix2 (fun q9 => k0 (uK_up q9 h60nC (by decide))) k1).2; omega)) dX8_repeats_54 (fun H locs hP hD hS => ?_)
        have hm := va_gs (k := 35) (e := (ad 35, .inl (cI, 56, .inl (upd (F 35) (nI (7 * x.toNatClampNeg + h.toNatClampNeg)).toNatClampNeg (1 : Int32))))) (by decide) hm
        have hA35 := va_ge (e := (ad 35, .inl (cI, 56, .inl (upd (F 35) (nI (7 * x.toNatClampNeg + h.toNatClampNeg)).toNatClampNeg (1 : Int32))))) hA35
        refine lv_aload_n hx hb dX8_repeats_55 rfl (lv_at hl 0 rfl) ?_
        refine lv_iload_n hx hb dX8_repeats_56 rfl (lv_at hl 1 rfl) ?_
        refine lv_iconst (v := 1) hx hb dX8_repeats_57 (by decide) ?_
        refine vp_callSi (va_Run.run (va_runV (As := [.int x, .int (1 : Int32)]) (rest := []) ⟨hx, hb, hml, hown, hts⟩ (metX8_houses l G tys htI _ (F := (updF F 35 (upd (F 35) (nI (7 * x.toNatClampNeg + h.toNatClampNeg)).toNatClampNeg (1 : Int32)))) hm hA35 x (1 : Int32) (fun q9 => k0 (uK_up q9 h60nC (by decide)))) (cwV 2 hts gX8_repeats_X8_houses rfl rfl rfl (by decide +kernel) ⟨Nat.le_of_ble_eq_true rfl, Nat.le_of_ble_eq_true rfl⟩) ⟨pcR_b, va_recv hK hP (ci := 9) (q0 := 12) rfl hm, pcR_u hP hK⟩ rfl rfl hl.1 rfl (lv_room (Nat.le_of_ble_eq_true rfl)) dX8_repeats_58 ⟨Nat.le_of_ble_eq_true rfl, Nat.le_of_ble_eq_true rfl⟩)) (fun r58 h58 => ?_)
        have hcd : cdRepeats x h (nI nC) = 0 := by unfold cdRepeats; rw [if_neg k0, if_neg k1]
        have ew : ((ws).set 12 (am, .inr (9, mF ad (upd z 0 (0 : Int32)) wi dm))).set 35 (ad 35, .inl (cI, 56, .inl (upd (F 35) (nI (7 * x.toNatClampNeg + h.toNatClampNeg)).toNatClampNeg (1 : Int32)))) = (if cdRepeats x h (nI nC) = 0 then (ws.set 12 (am, .inr (9, mF ad (upd z 0 0) wi dm))).set 35 (ad 35, .inl (cI, 56, .inl (upd (F 35) (7 * x.toNatClampNeg + h.toNatClampNeg) (if d = 0 then 2 else 1)))) else ws.set 12 (am, .inr (9, mF ad (upd z 0 (cdRepeats x h (nI nC))) wi dm))) := by rw [hcd, if_pos rfl]; rw [nI_clamp (show 7 * x.toNatClampNeg + h.toNatClampNeg < 2 ^ 31 by have := (mh_ix2 (fun q9 => k0 (uK_up q9 h60nC (by decide))) k1).2; omega)]; simp only [c46, ↓reduceIte]
        have hP : va_P G vwCl (((ws).set 12 (am, .inr (9, mF ad (upd z 0 (0 : Int32)) wi dm))).set 35 (ad 35, .inl (cI, 56, .inl (upd (F 35) (nI (7 * x.toNatClampNeg + h.toNatClampNeg)).toNatClampNeg (1 : Int32))))) H := hP
        have hD : va_D A (((ws).set 12 (am, .inr (9, mF ad (upd z 0 (0 : Int32)) wi dm))).set 35 (ad 35, .inl (cI, 56, .inl (upd (F 35) (nI (7 * x.toNatClampNeg + h.toNatClampNeg)).toNatClampNeg (1 : Int32))))) := hD
        rw [ew] at hP hD
        exact W.iret (v := r58) hx hb hr (fun t ht hW => ⟨⟨r58, (), rfl, (fun _ => (h58.trans (by rw [nI_clamp (show 7 * x.toNatClampNeg + h.toNatClampNeg < 2 ^ 31 by have := (mh_ix2 (fun q9 => k0 (uK_up q9 h60nC (by decide))) k1).2; omega)]; simp only [c46, ↓reduceIte]; rfl))), by show va_P G vwCl _ t.heap ∧ va_D A _; rw [ht]; exact ⟨hP, hD⟩⟩, hS.F ht⟩) hS.2.2 dX8_repeats_61
    · have hbd : uK h 7 := (oR_uK (k := 7) (by decide : (6 : Int32) = nI 7 - 1) (by decide)).mp (mIn_0.mp (h23.symm.trans c26))
      skip
      refine lv_aload_n hx hb dX8_repeats_29 rfl (lv_at hl 0 rfl) ?_
      refine lv_iconst (v := 1) hx hb dX8_repeats_30 (by decide) ?_
      refine va_calli (va_runV (As := [.int (1 : Int32)]) (rest := []) ⟨hx, hb, hml, hown, hts⟩ (metX8_stop l G tys _ hm (1 : Int32)) (cwV 1 hts gX8_repeats_X8_stop rfl rfl rfl (by decide +kernel) ⟨Nat.le_of_ble_eq_true rfl, Nat.le_of_ble_eq_true rfl⟩) ⟨pcM_b, va_recv hK hP (ci := 9) (q0 := 12) rfl hm, pcM_u hP hK hD hS hA⟩ rfl rfl hl.1 rfl (lv_room (Nat.le_of_ble_eq_true rfl)) dX8_repeats_31 ⟨Nat.le_of_ble_eq_true rfl, Nat.le_of_ble_eq_true rfl⟩) hS (fun q _ h => h) (fun q h => h) (fun r31 u t H locs ht hvm h31 hB hsz hk1 hS => ?_)
      rw [ht] at hB
      have hB := hB.1
      have hD := hD.set (e := .inr (9, mF ad (upd (upd z 0 (0 : Int32)) 0 (1 : Int32)) wi dm)) hm
      have hA35 := va_gs (k := 12) (e := (am, .inr (9, mF ad (upd (upd z 0 (0 : Int32)) 0 (1 : Int32)) wi dm))) (by decide) hA35
      have hm := va_ge (e := (am, .inr (9, mF ad (upd (upd z 0 (0 : Int32)) 0 (1 : Int32)) wi dm))) hm
      have hP : va_P G vwCl (((ws).set 12 (am, .inr (9, mF ad (upd z 0 (0 : Int32)) wi dm))).set 12 (am, .inr (9, mF ad (upd (upd z 0 (0 : Int32)) 0 (1 : Int32)) wi dm))) H := hB
      have hD : va_D A (((ws).set 12 (am, .inr (9, mF ad (upd z 0 (0 : Int32)) wi dm))).set 12 (am, .inr (9, mF ad (upd (upd z 0 (0 : Int32)) 0 (1 : Int32)) wi dm))) := hD
      have hcd : cdRepeats x h (nI nC) = 1 := by unfold cdRepeats; rw [if_neg k0, if_pos hbd]
      have ew : ((ws).set 12 (am, .inr (9, mF ad (upd z 0 (0 : Int32)) wi dm))).set 12 (am, .inr (9, mF ad (upd (upd z 0 (0 : Int32)) 0 (1 : Int32)) wi dm)) = (if cdRepeats x h (nI nC) = 0 then (ws.set 12 (am, .inr (9, mF ad (upd z 0 0) wi dm))).set 35 (ad 35, .inl (cI, 56, .inl (upd (F 35) (7 * x.toNatClampNeg + h.toNatClampNeg) (if d = 0 then 2 else 1)))) else ws.set 12 (am, .inr (9, mF ad (upd z 0 (cdRepeats x h (nI nC))) wi dm))) := by rw [hcd, if_neg (by decide), List.set_set, upd_upd]
      have hP : va_P G vwCl (((ws).set 12 (am, .inr (9, mF ad (upd z 0 (0 : Int32)) wi dm))).set 12 (am, .inr (9, mF ad (upd (upd z 0 (0 : Int32)) 0 (1 : Int32)) wi dm))) H := hP
      have hD : va_D A (((ws).set 12 (am, .inr (9, mF ad (upd z 0 (0 : Int32)) wi dm))).set 12 (am, .inr (9, mF ad (upd (upd z 0 (0 : Int32)) 0 (1 : Int32)) wi dm))) := hD
      rw [ew] at hP hD
      exact W.iret (v := r31) hx hb hr (fun t ht hW => ⟨⟨r31, (), rfl, (fun h0 => absurd (hcd.symm.trans h0) (by decide)), by show va_P G vwCl _ t.heap ∧ va_D A _; rw [ht]; exact ⟨hP, hD⟩⟩, hS.F ht⟩) hS.2.2 dX8_repeats_34
def mVer (op fr to pn h1 h2 : Int32) : Int32 := if 4 * pn ≤ 5 * (to - fr + 1) then (if op = 0 then (if 2 ≤ h1 then (if h2 < h1 then 4 else 3) else 2) else 1) else 0
set_option maxHeartbeats 1000000 in
set_option maxRecDepth 100000 in
theorem metX8_judge (l : Launch) (G : va_G) (tys : List (ClassId × FieldType)) {cI : ClassId} (htI : tI tys cI) {A : Nat → Prop} (ws : va_W) {am : Nat} {ad : Nat → Nat} {z : Nat → Int32} {wi dm : Int64} {F : Nat → Nat → Int32} (hm : ws[12]? = some (am, .inr (9, mF ad z wi dm))) (hA28 : ws[28]? = some (ad 28, .inl (cI, 60, .inl (F 28)))) (hA29 : ws[29]? = some (ad 29, .inl (cI, 60, .inl (F 29)))) (hA30 : ws[30]? = some (ad 30, .inl (cI, 60, .inl (F 30)))) (hA31 : ws[31]? = some (ad 31, .inl (cI, 8, .inl (F 31)))) (hA32 : ws[32]? = some (ad 32, .inl (cI, 8, .inl (F 32)))) (hA33 : ws[33]? = some (ad 33, .inl (cI, 8, .inl (F 33)))) (hA34 : ws[34]? = some (ad 34, .inl (cI, 8, .inl (F 34)))) (hA35 : ws[35]? = some (ad 35, .inl (cI, 56, .inl (F 35)))) {nC : Nat} (hz33 : z 33 = nI nC) (h60nC : nC ≤ 8) (hcl : ∀ i, i < nC → ∃ a b : Nat, F 32 i = nI a ∧ F 33 i = nI b ∧ a ≤ b ∧ b < 60) (x no : Int32) : Met l yX8_judge wsX8_judge ({ frames := 2, cells := 0, slots := 0, locals := 49 }) (pcM G tys ws A [.ref am, .int x, .int no]) (va_Qi (fun (r : Int32) (_ : Unit) => cdJudge x no (nI nC) = 0 → r = mVer (kOpen F x no (F 32 x.toNatClampNeg).toNatClampNeg ((F 33 x.toNatClampNeg).toNatClampNeg + 1 - (F 32 x.toNatClampNeg).toNatClampNeg)) (F 32 x.toNatClampNeg) (F 33 x.toNatClampNeg) (F 34 x.toNatClampNeg) (mHou (F 35) (7 * x.toNatClampNeg) 1 7) (mHou (F 35) (7 * x.toNatClampNeg) 2 7)) (fun _ t => va_P G vwCl (if cdJudge x no (nI nC) = 0 then (ws).set 12 (am, .inr (9, mF ad (upd z 0 (0 : Int32)) wi dm)) else ws.set 12 (am, .inr (9, mF ad (upd z 0 (cdJudge x no (nI nC))) wi dm))) t.heap ∧ va_D A (if cdJudge x no (nI nC) = 0 then (ws).set 12 (am, .inr (9, mF ad (upd z 0 (0 : Int32)) wi dm)) else ws.set 12 (am, .inr (9, mF ad (upd z 0 (cdJudge x no (nI nC))) wi dm)))) A) 0 0 A := by
  refine ofM (cc := cX8_judge) (maxL := 3) (ret := some .int) (by decide) rfl (Nat.le_of_ble_eq_true rfl) ?_
  intro p e s m below meth c ls hx hb hr hlocks hml hown hts hin hl hP hK hD hA hS
  have hown : s.vm.findClass RX8 = some m.cls := hown
  have hiX8 : ∀ w ∈ u_ws RX8 TX8 39, w ∈ wsX8_judge := fun _ h => List.mem_cons_of_mem _ (List.mem_append_right _ h)
  have hl : lv_has ls 3 [(0, .ref am), (1, .int x), (2, .int no)] := hl
  refine lv_aload_n hx hb dX8_judge_0 rfl (lv_at hl 0 rfl) ?_
  refine lv_iconst (v := 0) hx hb dX8_judge_1 (by decide) ?_
  refine va_put (D := G) (ci := 9) (v := .int (0 : Int32)) (ty := .int) (C := RX8) (T := TX8) (N := 39) hx hb hts hiX8 tyX8 tyX8_ok nmX8 hown hK hP hD hS 12 hm rfl 0 (by decide) (hts (.fieldLink RX8 86 "VortexpinModel" "thrown" "I") (List.mem_of_getElem? (i := 1) rfl)) (fun _ h9 => h9) rfl (by decide +kernel) (rfl) (rfl) (Nat.le_of_ble_eq_true rfl) dX8_judge_2 (fun H locs hP hD hS => ?_)
  have hP : va_P G vwCl ((ws).set 12 (am, .inr (9, mF ad (upd z 0 (0 : Int32)) wi dm))) H := hP
  have hD : va_D A ((ws).set 12 (am, .inr (9, mF ad (upd z 0 (0 : Int32)) wi dm))) := hD
  have hA28 := va_gs (k := 12) (e := (am, .inr (9, mF ad (upd z 0 (0 : Int32)) wi dm))) (by decide) hA28
  have hA29 := va_gs (k := 12) (e := (am, .inr (9, mF ad (upd z 0 (0 : Int32)) wi dm))) (by decide) hA29
  have hA30 := va_gs (k := 12) (e := (am, .inr (9, mF ad (upd z 0 (0 : Int32)) wi dm))) (by decide) hA30
  have hA31 := va_gs (k := 12) (e := (am, .inr (9, mF ad (upd z 0 (0 : Int32)) wi dm))) (by decide) hA31
  have hA32 := va_gs (k := 12) (e := (am, .inr (9, mF ad (upd z 0 (0 : Int32)) wi dm))) (by decide) hA32
  have hA33 := va_gs (k := 12) (e := (am, .inr (9, mF ad (upd z 0 (0 : Int32)) wi dm))) (by decide) hA33
  have hA34 := va_gs (k := 12) (e := (am, .inr (9, mF ad (upd z 0 (0 : Int32)) wi dm))) (by decide) hA34
  have hA35 := va_gs (k := 12) (e := (am, .inr (9, mF ad (upd z 0 (0 : Int32)) wi dm))) (by decide) hA35
  have hm := va_ge (e := (am, .inr (9, mF ad (upd z 0 (0 : Int32)) wi dm))) hm
  refine lv_iload_n hx hb dX8_judge_5 rfl (lv_at hl 1 rfl) ?_
  refine lv_iconst (v := 0) hx hb dX8_judge_6 (by decide) ?_
  refine lv_aload_n hx hb dX8_judge_7 rfl (lv_at hl 0 rfl) ?_
  refine va_get (D := G) (ci := 9) (v := .int (z 33)) (C := RX8) (T := TX8) (N := 39) hx hb hts hiX8 hown hK hP 12 hm rfl 33 (by decide) (hts (.fieldLink RX8 192 "VortexpinModel" "claims" "I") (List.mem_of_getElem? (i := 2) rfl)) (fun _ h9 => h9) rfl dX8_judge_8 ?_
  refine lv_iconst (v := 1) hx hb dX8_judge_11 (by decide) ?_
  refine lv_isub hx hb dX8_judge_12 ?_
  refine vp_callSi (va_Run.run (va_runS (As := [.int x, .int (0 : Int32), .int ((z 33) - (1 : Int32))]) (rest := []) ⟨hx, hb, hml, hown, hts⟩ (metX8_in l x (0 : Int32) ((z 33) - (1 : Int32))) (va_cwS 3 hts gX8_judge_X8_in rfl rfl rfl (by decide +kernel) ⟨Nat.le_of_ble_eq_true rfl, Nat.le_of_ble_eq_true rfl⟩) ⟨pc0_b, pc0_u⟩ rfl rfl hl.1 rfl (lv_room (Nat.le_of_ble_eq_true rfl)) dX8_judge_13 ⟨Nat.le_of_ble_eq_true rfl, Nat.le_of_ble_eq_true rfl⟩)) (fun r13 h13 => ?_)
  refine lv_if_ne (tgt := 25) hx hb dX8_judge_16 (by decide) (fun c16 => ?_) (fun c16 => ?_)
  · have k0 : ¬ (uK x (nI nC)) := fun q9 => c16 (h13.trans (mIn_0.mpr ((oR_uK (by rw [hz33]) (show nC < 2 ^ 31 by omega)).mpr q9)))
    refine lv_iload_n hx hb dX8_judge_25 rfl (lv_at hl 2 rfl) ?_
    refine lv_iconst (v := 0) hx hb dX8_judge_26 (by decide) ?_
    refine lv_ldc (v := 1000000) hx hb hown (hts (.constant RX8 143 (1000000)) (List.mem_of_getElem? (i := 3) rfl)) dX8_judge_27 ?_
    refine vp_callSi (va_Run.run (va_runS (As := [.int no, .int (0 : Int32), .int (1000000 : Int32)]) (rest := []) ⟨hx, hb, hml, hown, hts⟩ (metX8_in l no (0 : Int32) (1000000 : Int32)) (va_cwS 3 hts gX8_judge_X8_in rfl rfl rfl (by decide +kernel) ⟨Nat.le_of_ble_eq_true rfl, Nat.le_of_ble_eq_true rfl⟩) ⟨pc0_b, pc0_u⟩ rfl rfl hl.1 rfl (lv_room (Nat.le_of_ble_eq_true rfl)) dX8_judge_29 ⟨Nat.le_of_ble_eq_true rfl, Nat.le_of_ble_eq_true rfl⟩)) (fun r29 h29 => ?_)
    refine lv_if_ne (tgt := 41) hx hb dX8_judge_32 (by decide) (fun c32 => ?_) (fun c32 => ?_)
    · have k1 : ¬ (oR no 0 1000000) := fun q9 => c32 (h29.trans (mIn_0.mpr q9))
      refine lv_iconst (v := 5) hx hb dX8_judge_41 (by decide) ?_
      refine lv_aload_n hx hb dX8_judge_42 rfl (lv_at hl 0 rfl) ?_
      refine va_get (D := G) (ci := 9) (v := .ref (ad 33)) (C := RX8) (T := TX8) (N := 39) hx hb hts hiX8 hown hK hP 12 hm rfl 36 (by decide) (hts (.fieldLink RX8 77 "VortexpinModel" "claimTo" "[I") (List.mem_of_getElem? (i := 4) rfl)) (fun _ h9 => h9) rfl dX8_judge_43 ?_
      refine lv_iload_n hx hb dX8_judge_46 rfl (lv_at hl 1 rfl) ?_
      refine va_iald hx hb hK hP 33 0 hA33 htI (vp_uK (n := 8) (fun q9 => k0 (uK_up q9 h60nC (by decide)))) dX8_judge_47 ?_
      refine lv_aload_n hx hb dX8_judge_48 rfl (lv_at hl 0 rfl) ?_
      refine va_get (D := G) (ci := 9) (v := .ref (ad 32)) (C := RX8) (T := TX8) (N := 39) hx hb hts hiX8 hown hK hP 12 hm rfl 35 (by decide) (hts (.fieldLink RX8 74 "VortexpinModel" "claimFrom" "[I") (List.mem_of_getElem? (i := 5) rfl)) (fun _ h9 => h9) rfl dX8_judge_49 ?_
      refine lv_iload_n hx hb dX8_judge_52 rfl (lv_at hl 1 rfl) ?_
      refine va_iald hx hb hK hP 32 0 hA32 htI (vp_uK (n := 8) (fun q9 => k0 (uK_up q9 h60nC (by decide)))) dX8_judge_53 ?_
      refine lv_isub hx hb dX8_judge_54 ?_
      refine lv_iconst (v := 1) hx hb dX8_judge_55 (by decide) ?_
      refine lv_iadd hx hb dX8_judge_56 ?_
      refine lv_imul hx hb dX8_judge_57 ?_
      refine lv_iconst (v := 4) hx hb dX8_judge_58 (by decide) ?_
      refine lv_aload_n hx hb dX8_judge_59 rfl (lv_at hl 0 rfl) ?_
      refine va_get (D := G) (ci := 9) (v := .ref (ad 34)) (C := RX8) (T := TX8) (N := 39) hx hb hts hiX8 hown hK hP 12 hm rfl 37 (by decide) (hts (.fieldLink RX8 80 "VortexpinModel" "claimAll" "[I") (List.mem_of_getElem? (i := 6) rfl)) (fun _ h9 => h9) rfl dX8_judge_60 ?_
      refine lv_iload_n hx hb dX8_judge_63 rfl (lv_at hl 1 rfl) ?_
      refine va_iald hx hb hK hP 34 0 hA34 htI (vp_uK (n := 8) (fun q9 => k0 (uK_up q9 h60nC (by decide)))) dX8_judge_64 ?_
      refine lv_imul hx hb dX8_judge_65 ?_
      refine lv_icmp_ge (tgt := 71) hx hb dX8_judge_66 (by decide) (fun c66 => ?_) (fun c66 => ?_)
      · refine lv_aload_n hx hb dX8_judge_71 rfl (lv_at hl 0 rfl) ?_
        refine lv_iload_n hx hb dX8_judge_72 rfl (lv_at hl 1 rfl) ?_
        refine lv_iload_n hx hb dX8_judge_73 rfl (lv_at hl 2 rfl) ?_
        obtain ⟨ka, kb, g1, g2, g3, g4⟩ := hcl x.toNatClampNeg (uK_ix k0).2
        refine vp_callSi (va_Run.run (va_runV (As := [.int x, .int no]) (rest := []) ⟨hx, hb, hml, hown, hts⟩ (metX8_isOpen l G tys htI _ hm hA28 hA29 hA30 hA31 hA32 hA33 x no (fun q9 => k0 (uK_up q9 h60nC (by decide))) g1 g2 ⟨g3, g4⟩) (cwV 2 hts gX8_judge_X8_isOpen rfl rfl rfl (by decide +kernel) ⟨Nat.le_of_ble_eq_true rfl, Nat.le_of_ble_eq_true rfl⟩) ⟨pcR_b, va_recv hK hP (ci := 9) (q0 := 12) rfl hm, pcR_u hP hK⟩ rfl rfl hl.1 rfl (lv_room (Nat.le_of_ble_eq_true rfl)) dX8_judge_74 ⟨Nat.le_of_ble_eq_true rfl, Nat.le_of_ble_eq_true rfl⟩)) (fun r74 h74 => ?_)
        have h74 : r74 = kOpen F x no (F 32 x.toNatClampNeg).toNatClampNeg ((F 33 x.toNatClampNeg).toNatClampNeg + 1 - (F 32 x.toNatClampNeg).toNatClampNeg) := by rw [h74, g1, g2, nI_clamp (show ka < 2 ^ 31 by omega), nI_clamp (show kb < 2 ^ 31 by omega)]
        refine lv_if_eq (tgt := 82) hx hb dX8_judge_77 (by decide) (fun c77 => ?_) (fun c77 => ?_)
        · refine lv_aload_n hx hb dX8_judge_82 rfl (lv_at hl 0 rfl) ?_
          refine lv_iload_n hx hb dX8_judge_83 rfl (lv_at hl 1 rfl) ?_
          refine lv_iconst (v := 1) hx hb dX8_judge_84 (by decide) ?_
          refine vp_callSi (va_Run.run (va_runV (As := [.int x, .int (1 : Int32)]) (rest := []) ⟨hx, hb, hml, hown, hts⟩ (metX8_houses l G tys htI _ (F := F) hm hA35 x (1 : Int32) (fun q9 => k0 (uK_up q9 h60nC (by decide)))) (cwV 2 hts gX8_judge_X8_houses rfl rfl rfl (by decide +kernel) ⟨Nat.le_of_ble_eq_true rfl, Nat.le_of_ble_eq_true rfl⟩) ⟨pcR_b, va_recv hK hP (ci := 9) (q0 := 12) rfl hm, pcR_u hP hK⟩ rfl rfl hl.1 rfl (lv_room (Nat.le_of_ble_eq_true rfl)) dX8_judge_85 ⟨Nat.le_of_ble_eq_true rfl, Nat.le_of_ble_eq_true rfl⟩)) (fun r85 h85 => ?_)
          refine lv_iconst (v := 2) hx hb dX8_judge_88 (by decide) ?_
          refine lv_icmp_ge (tgt := 94) hx hb dX8_judge_89 (by decide) (fun c89 => ?_) (fun c89 => ?_)
          · refine lv_aload_n hx hb dX8_judge_94 rfl (lv_at hl 0 rfl) ?_
            refine lv_iload_n hx hb dX8_judge_95 rfl (lv_at hl 1 rfl) ?_
            refine lv_iconst (v := 2) hx hb dX8_judge_96 (by decide) ?_
            refine vp_callSi (va_Run.run (va_runV (As := [.int x, .int (2 : Int32)]) (rest := []) ⟨hx, hb, hml, hown, hts⟩ (metX8_houses l G tys htI _ (F := F) hm hA35 x (2 : Int32) (fun q9 => k0 (uK_up q9 h60nC (by decide)))) (cwV 2 hts gX8_judge_X8_houses rfl rfl rfl (by decide +kernel) ⟨Nat.le_of_ble_eq_true rfl, Nat.le_of_ble_eq_true rfl⟩) ⟨pcR_b, va_recv hK hP (ci := 9) (q0 := 12) rfl hm, pcR_u hP hK⟩ rfl rfl hl.1 rfl (lv_room (Nat.le_of_ble_eq_true rfl)) dX8_judge_97 ⟨Nat.le_of_ble_eq_true rfl, Nat.le_of_ble_eq_true rfl⟩)) (fun r97 h97 => ?_)
            refine lv_aload_n hx hb dX8_judge_100 rfl (lv_at hl 0 rfl) ?_
            refine lv_iload_n hx hb dX8_judge_101 rfl (lv_at hl 1 rfl) ?_
            refine lv_iconst (v := 1) hx hb dX8_judge_102 (by decide) ?_
            refine vp_callSi (va_Run.run (va_runV (As := [.int x, .int (1 : Int32)]) (rest := [.int r97]) ⟨hx, hb, hml, hown, hts⟩ (metX8_houses l G tys htI _ (F := F) hm hA35 x (1 : Int32) (fun q9 => k0 (uK_up q9 h60nC (by decide)))) (cwV 2 hts gX8_judge_X8_houses rfl rfl rfl (by decide +kernel) ⟨Nat.le_of_ble_eq_true rfl, Nat.le_of_ble_eq_true rfl⟩) ⟨pcR_b, va_recv hK hP (ci := 9) (q0 := 12) rfl hm, pcR_u hP hK⟩ rfl rfl hl.1 rfl (lv_room (Nat.le_of_ble_eq_true rfl)) dX8_judge_103 ⟨Nat.le_of_ble_eq_true rfl, Nat.le_of_ble_eq_true rfl⟩)) (fun r103 h103 => ?_)
            refine lv_icmp_lt (tgt := 113) hx hb dX8_judge_106 (by decide) (fun c106 => ?_) (fun c106 => ?_)
            · refine lv_iconst (v := 4) hx hb dX8_judge_113 (by decide) ?_
              have hcd : cdJudge x no (nI nC) = 0 := by unfold cdJudge; rw [if_neg k0, if_neg k1]
              have ew : (ws).set 12 (am, .inr (9, mF ad (upd z 0 (0 : Int32)) wi dm)) = (if cdJudge x no (nI nC) = 0 then (ws).set 12 (am, .inr (9, mF ad (upd z 0 (0 : Int32)) wi dm)) else ws.set 12 (am, .inr (9, mF ad (upd z 0 (cdJudge x no (nI nC))) wi dm))) := by rw [hcd, if_pos rfl]
              have hP : va_P G vwCl ((ws).set 12 (am, .inr (9, mF ad (upd z 0 (0 : Int32)) wi dm))) H := hP
              have hD : va_D A ((ws).set 12 (am, .inr (9, mF ad (upd z 0 (0 : Int32)) wi dm))) := hD
              rw [ew] at hP hD
              exact W.iret (v := (4 : Int32)) hx hb hr (fun t ht hW => ⟨⟨(4 : Int32), (), rfl, (fun _ => by subst h13; subst h29; subst h74; subst h85; subst h97; subst h103; simp only [mVer, c16, c32, c66, (eq_true c77), c89, c106, ↓reduceIte, not_true_eq_false, not_false_eq_true]), by show va_P G vwCl _ t.heap ∧ va_D A _; rw [ht]; exact ⟨hP, hD⟩⟩, hS.F ht⟩) hS.2.2 dX8_judge_114
            · refine lv_iconst (v := 3) hx hb dX8_judge_109 (by decide) ?_
              refine lv_goto (tgt := 114) hx hb dX8_judge_110 (by decide) ?_
              have hcd : cdJudge x no (nI nC) = 0 := by unfold cdJudge; rw [if_neg k0, if_neg k1]
              have ew : (ws).set 12 (am, .inr (9, mF ad (upd z 0 (0 : Int32)) wi dm)) = (if cdJudge x no (nI nC) = 0 then (ws).set 12 (am, .inr (9, mF ad (upd z 0 (0 : Int32)) wi dm)) else ws.set 12 (am, .inr (9, mF ad (upd z 0 (cdJudge x no (nI nC))) wi dm))) := by rw [hcd, if_pos rfl]
              have hP : va_P G vwCl ((ws).set 12 (am, .inr (9, mF ad (upd z 0 (0 : Int32)) wi dm))) H := hP
              have hD : va_D A ((ws).set 12 (am, .inr (9, mF ad (upd z 0 (0 : Int32)) wi dm))) := hD
              rw [ew] at hP hD
              exact W.iret (v := (3 : Int32)) hx hb hr (fun t ht hW => ⟨⟨(3 : Int32), (), rfl, (fun _ => by subst h13; subst h29; subst h74; subst h85; subst h97; subst h103; simp only [mVer, c16, c32, c66, (eq_true c77), c89, c106, ↓reduceIte, not_true_eq_false, not_false_eq_true]), by show va_P G vwCl _ t.heap ∧ va_D A _; rw [ht]; exact ⟨hP, hD⟩⟩, hS.F ht⟩) hS.2.2 dX8_judge_114
          · refine lv_iconst (v := 2) hx hb dX8_judge_92 (by decide) ?_
            have hcd : cdJudge x no (nI nC) = 0 := by unfold cdJudge; rw [if_neg k0, if_neg k1]
            have ew : (ws).set 12 (am, .inr (9, mF ad (upd z 0 (0 : Int32)) wi dm)) = (if cdJudge x no (nI nC) = 0 then (ws).set 12 (am, .inr (9, mF ad (upd z 0 (0 : Int32)) wi dm)) else ws.set 12 (am, .inr (9, mF ad (upd z 0 (cdJudge x no (nI nC))) wi dm))) := by rw [hcd, if_pos rfl]
            have hP : va_P G vwCl ((ws).set 12 (am, .inr (9, mF ad (upd z 0 (0 : Int32)) wi dm))) H := hP
            have hD : va_D A ((ws).set 12 (am, .inr (9, mF ad (upd z 0 (0 : Int32)) wi dm))) := hD
            rw [ew] at hP hD
            exact W.iret (v := (2 : Int32)) hx hb hr (fun t ht hW => ⟨⟨(2 : Int32), (), rfl, (fun _ => by subst h13; subst h29; subst h74; subst h85; simp only [mVer, c16, c32, c66, (eq_true c77), c89, ↓reduceIte, not_true_eq_false, not_false_eq_true]), by show va_P G vwCl _ t.heap ∧ va_D A _; rw [ht]; exact ⟨hP, hD⟩⟩, hS.F ht⟩) hS.2.2 dX8_judge_93
        · refine lv_iconst (v := 1) hx hb dX8_judge_80 (by decide) ?_
          have hcd : cdJudge x no (nI nC) = 0 := by unfold cdJudge; rw [if_neg k0, if_neg k1]
          have ew : (ws).set 12 (am, .inr (9, mF ad (upd z 0 (0 : Int32)) wi dm)) = (if cdJudge x no (nI nC) = 0 then (ws).set 12 (am, .inr (9, mF ad (upd z 0 (0 : Int32)) wi dm)) else ws.set 12 (am, .inr (9, mF ad (upd z 0 (cdJudge x no (nI nC))) wi dm))) := by rw [hcd, if_pos rfl]
          have hP : va_P G vwCl ((ws).set 12 (am, .inr (9, mF ad (upd z 0 (0 : Int32)) wi dm))) H := hP
          have hD : va_D A ((ws).set 12 (am, .inr (9, mF ad (upd z 0 (0 : Int32)) wi dm))) := hD
          rw [ew] at hP hD
          exact W.iret (v := (1 : Int32)) hx hb hr (fun t ht hW => ⟨⟨(1 : Int32), (), rfl, (fun _ => by subst h13; subst h29; subst h74; simp only [mVer, c16, c32, c66, c77, ↓reduceIte, not_true_eq_false, not_false_eq_true]), by show va_P G vwCl _ t.heap ∧ va_D A _; rw [ht]; exact ⟨hP, hD⟩⟩, hS.F ht⟩) hS.2.2 dX8_judge_81
      · refine lv_iconst (v := 0) hx hb dX8_judge_69 (by decide) ?_
        have hcd : cdJudge x no (nI nC) = 0 := by unfold cdJudge; rw [if_neg k0, if_neg k1]
        have ew : (ws).set 12 (am, .inr (9, mF ad (upd z 0 (0 : Int32)) wi dm)) = (if cdJudge x no (nI nC) = 0 then (ws).set 12 (am, .inr (9, mF ad (upd z 0 (0 : Int32)) wi dm)) else ws.set 12 (am, .inr (9, mF ad (upd z 0 (cdJudge x no (nI nC))) wi dm))) := by rw [hcd, if_pos rfl]
        have hP : va_P G vwCl ((ws).set 12 (am, .inr (9, mF ad (upd z 0 (0 : Int32)) wi dm))) H := hP
        have hD : va_D A ((ws).set 12 (am, .inr (9, mF ad (upd z 0 (0 : Int32)) wi dm))) := hD
        rw [ew] at hP hD
        exact W.iret (v := (0 : Int32)) hx hb hr (fun t ht hW => ⟨⟨(0 : Int32), (), rfl, (fun _ => by subst h13; subst h29; simp only [mVer, c16, c32, c66, ↓reduceIte, not_true_eq_false, not_false_eq_true]), by show va_P G vwCl _ t.heap ∧ va_D A _; rw [ht]; exact ⟨hP, hD⟩⟩, hS.F ht⟩) hS.2.2 dX8_judge_70
    · have hbd : oR no 0 1000000 := mIn_0.mp (h29.symm.trans c32)
      skip
      refine lv_aload_n hx hb dX8_judge_35 rfl (lv_at hl 0 rfl) ?_
      refine lv_iconst (v := 2) hx hb dX8_judge_36 (by decide) ?_
      refine va_calli (va_runV (As := [.int (2 : Int32)]) (rest := []) ⟨hx, hb, hml, hown, hts⟩ (metX8_stop l G tys _ hm (2 : Int32)) (cwV 1 hts gX8_judge_X8_stop rfl rfl rfl (by decide +kernel) ⟨Nat.le_of_ble_eq_true rfl, Nat.le_of_ble_eq_true rfl⟩) ⟨pcM_b, va_recv hK hP (ci := 9) (q0 := 12) rfl hm, pcM_u hP hK hD hS hA⟩ rfl rfl hl.1 rfl (lv_room (Nat.le_of_ble_eq_true rfl)) dX8_judge_37 ⟨Nat.le_of_ble_eq_true rfl, Nat.le_of_ble_eq_true rfl⟩) hS (fun q _ h => h) (fun q h => h) (fun r37 u t H locs ht hvm h37 hB hsz hk1 hS => ?_)
      rw [ht] at hB
      have hB := hB.1
      have hD := hD.set (e := .inr (9, mF ad (upd (upd z 0 (0 : Int32)) 0 (2 : Int32)) wi dm)) hm
      have hA28 := va_gs (k := 12) (e := (am, .inr (9, mF ad (upd (upd z 0 (0 : Int32)) 0 (2 : Int32)) wi dm))) (by decide) hA28
      have hA29 := va_gs (k := 12) (e := (am, .inr (9, mF ad (upd (upd z 0 (0 : Int32)) 0 (2 : Int32)) wi dm))) (by decide) hA29
      have hA30 := va_gs (k := 12) (e := (am, .inr (9, mF ad (upd (upd z 0 (0 : Int32)) 0 (2 : Int32)) wi dm))) (by decide) hA30
      have hA31 := va_gs (k := 12) (e := (am, .inr (9, mF ad (upd (upd z 0 (0 : Int32)) 0 (2 : Int32)) wi dm))) (by decide) hA31
      have hA32 := va_gs (k := 12) (e := (am, .inr (9, mF ad (upd (upd z 0 (0 : Int32)) 0 (2 : Int32)) wi dm))) (by decide) hA32
      have hA33 := va_gs (k := 12) (e := (am, .inr (9, mF ad (upd (upd z 0 (0 : Int32)) 0 (2 : Int32)) wi dm))) (by decide) hA33
      have hA34 := va_gs (k := 12) (e := (am, .inr (9, mF ad (upd (upd z 0 (0 : Int32)) 0 (2 : Int32)) wi dm))) (by decide) hA34
      have hA35 := va_gs (k := 12) (e := (am, .inr (9, mF ad (upd (upd z 0 (0 : Int32)) 0 (2 : Int32)) wi dm))) (by decide) hA35
      have hm := va_ge (e := (am, .inr (9, mF ad (upd (upd z 0 (0 : Int32)) 0 (2 : Int32)) wi dm))) hm
      have hP : va_P G vwCl (((ws).set 12 (am, .inr (9, mF ad (upd z 0 (0 : Int32)) wi dm))).set 12 (am, .inr (9, mF ad (upd (upd z 0 (0 : Int32)) 0 (2 : Int32)) wi dm))) H := hB
      have hD : va_D A (((ws).set 12 (am, .inr (9, mF ad (upd z 0 (0 : Int32)) wi dm))).set 12 (am, .inr (9, mF ad (upd (upd z 0 (0 : Int32)) 0 (2 : Int32)) wi dm))) := hD
      have hcd : cdJudge x no (nI nC) = 2 := by unfold cdJudge; rw [if_neg k0, if_pos hbd]
      have ew : ((ws).set 12 (am, .inr (9, mF ad (upd z 0 (0 : Int32)) wi dm))).set 12 (am, .inr (9, mF ad (upd (upd z 0 (0 : Int32)) 0 (2 : Int32)) wi dm)) = (if cdJudge x no (nI nC) = 0 then (ws).set 12 (am, .inr (9, mF ad (upd z 0 (0 : Int32)) wi dm)) else ws.set 12 (am, .inr (9, mF ad (upd z 0 (cdJudge x no (nI nC))) wi dm))) := by rw [hcd, if_neg (by decide), List.set_set, upd_upd]
      have hP : va_P G vwCl (((ws).set 12 (am, .inr (9, mF ad (upd z 0 (0 : Int32)) wi dm))).set 12 (am, .inr (9, mF ad (upd (upd z 0 (0 : Int32)) 0 (2 : Int32)) wi dm))) H := hP
      have hD : va_D A (((ws).set 12 (am, .inr (9, mF ad (upd z 0 (0 : Int32)) wi dm))).set 12 (am, .inr (9, mF ad (upd (upd z 0 (0 : Int32)) 0 (2 : Int32)) wi dm))) := hD
      rw [ew] at hP hD
      exact W.iret (v := r37) hx hb hr (fun t ht hW => ⟨⟨r37, (), rfl, (fun h0 => absurd (hcd.symm.trans h0) (by decide)), by show va_P G vwCl _ t.heap ∧ va_D A _; rw [ht]; exact ⟨hP, hD⟩⟩, hS.F ht⟩) hS.2.2 dX8_judge_40
  · have hbd : uK x (nI nC) := (oR_uK (by rw [hz33]) (show nC < 2 ^ 31 by omega)).mp (mIn_0.mp (h13.symm.trans c16))
    skip
    refine lv_aload_n hx hb dX8_judge_19 rfl (lv_at hl 0 rfl) ?_
    refine lv_iconst (v := 1) hx hb dX8_judge_20 (by decide) ?_
    refine va_calli (va_runV (As := [.int (1 : Int32)]) (rest := []) ⟨hx, hb, hml, hown, hts⟩ (metX8_stop l G tys _ hm (1 : Int32)) (cwV 1 hts gX8_judge_X8_stop rfl rfl rfl (by decide +kernel) ⟨Nat.le_of_ble_eq_true rfl, Nat.le_of_ble_eq_true rfl⟩) ⟨pcM_b, va_recv hK hP (ci := 9) (q0 := 12) rfl hm, pcM_u hP hK hD hS hA⟩ rfl rfl hl.1 rfl (lv_room (Nat.le_of_ble_eq_true rfl)) dX8_judge_21 ⟨Nat.le_of_ble_eq_true rfl, Nat.le_of_ble_eq_true rfl⟩) hS (fun q _ h => h) (fun q h => h) (fun r21 u t H locs ht hvm h21 hB hsz hk1 hS => ?_)
    rw [ht] at hB
    have hB := hB.1
    have hD := hD.set (e := .inr (9, mF ad (upd (upd z 0 (0 : Int32)) 0 (1 : Int32)) wi dm)) hm
    have hA28 := va_gs (k := 12) (e := (am, .inr (9, mF ad (upd (upd z 0 (0 : Int32)) 0 (1 : Int32)) wi dm))) (by decide) hA28
    have hA29 := va_gs (k := 12) (e := (am, .inr (9, mF ad (upd (upd z 0 (0 : Int32)) 0 (1 : Int32)) wi dm))) (by decide) hA29
    have hA30 := va_gs (k := 12) (e := (am, .inr (9, mF ad (upd (upd z 0 (0 : Int32)) 0 (1 : Int32)) wi dm))) (by decide) hA30
    have hA31 := va_gs (k := 12) (e := (am, .inr (9, mF ad (upd (upd z 0 (0 : Int32)) 0 (1 : Int32)) wi dm))) (by decide) hA31
    have hA32 := va_gs (k := 12) (e := (am, .inr (9, mF ad (upd (upd z 0 (0 : Int32)) 0 (1 : Int32)) wi dm))) (by decide) hA32
    have hA33 := va_gs (k := 12) (e := (am, .inr (9, mF ad (upd (upd z 0 (0 : Int32)) 0 (1 : Int32)) wi dm))) (by decide) hA33
    have hA34 := va_gs (k := 12) (e := (am, .inr (9, mF ad (upd (upd z 0 (0 : Int32)) 0 (1 : Int32)) wi dm))) (by decide) hA34
    have hA35 := va_gs (k := 12) (e := (am, .inr (9, mF ad (upd (upd z 0 (0 : Int32)) 0 (1 : Int32)) wi dm))) (by decide) hA35
    have hm := va_ge (e := (am, .inr (9, mF ad (upd (upd z 0 (0 : Int32)) 0 (1 : Int32)) wi dm))) hm
    have hP : va_P G vwCl (((ws).set 12 (am, .inr (9, mF ad (upd z 0 (0 : Int32)) wi dm))).set 12 (am, .inr (9, mF ad (upd (upd z 0 (0 : Int32)) 0 (1 : Int32)) wi dm))) H := hB
    have hD : va_D A (((ws).set 12 (am, .inr (9, mF ad (upd z 0 (0 : Int32)) wi dm))).set 12 (am, .inr (9, mF ad (upd (upd z 0 (0 : Int32)) 0 (1 : Int32)) wi dm))) := hD
    have hcd : cdJudge x no (nI nC) = 1 := by unfold cdJudge; rw [if_pos hbd]
    have ew : ((ws).set 12 (am, .inr (9, mF ad (upd z 0 (0 : Int32)) wi dm))).set 12 (am, .inr (9, mF ad (upd (upd z 0 (0 : Int32)) 0 (1 : Int32)) wi dm)) = (if cdJudge x no (nI nC) = 0 then (ws).set 12 (am, .inr (9, mF ad (upd z 0 (0 : Int32)) wi dm)) else ws.set 12 (am, .inr (9, mF ad (upd z 0 (cdJudge x no (nI nC))) wi dm))) := by rw [hcd, if_neg (by decide), List.set_set, upd_upd]
    have hP : va_P G vwCl (((ws).set 12 (am, .inr (9, mF ad (upd z 0 (0 : Int32)) wi dm))).set 12 (am, .inr (9, mF ad (upd (upd z 0 (0 : Int32)) 0 (1 : Int32)) wi dm))) H := hP
    have hD : va_D A (((ws).set 12 (am, .inr (9, mF ad (upd z 0 (0 : Int32)) wi dm))).set 12 (am, .inr (9, mF ad (upd (upd z 0 (0 : Int32)) 0 (1 : Int32)) wi dm))) := hD
    rw [ew] at hP hD
    exact W.iret (v := r21) hx hb hr (fun t ht hW => ⟨⟨r21, (), rfl, (fun h0 => absurd (hcd.symm.trans h0) (by decide)), by show va_P G vwCl _ t.heap ∧ va_D A _; rw [ht]; exact ⟨hP, hD⟩⟩, hS.F ht⟩) hS.2.2 dX8_judge_24
set_option maxHeartbeats 4000000 in
set_option maxRecDepth 100000 in
theorem metX8_share (l : Launch) (G : va_G) (tys : List (ClassId × FieldType)) {A : Nat → Prop} (ws : va_W) {am : Nat} {ad : Nat → Nat} {z : Nat → Int32} {wi dm : Int64} (hm : ws[12]? = some (am, .inr (9, mF ad z wi dm))) : Met l yX8_share wsX8_share ({ frames := 0, cells := 0, slots := 0, locals := 0 }) (pcM G tys ws A [.ref am]) (va_Qd (fun (r : UInt64) (_ : Unit) => r = cShare wi dm) (fun _ t => va_P G vwCl (ws.set 12 (am, .inr (9, mF ad (upd z 0 0) wi dm))) t.heap ∧ va_D A (ws.set 12 (am, .inr (9, mF ad (upd z 0 0) wi dm)))) A) 0 0 A := by
  refine ofM (cc := cX8_share) (maxL := 1) (ret := some .double) (by decide) rfl (Nat.le_of_ble_eq_true rfl) ?_
  intro p e s m below meth c ls hx hb hr hlocks hml hown hts hin hl hP hK hD hA hS
  have hown : s.vm.findClass RX8 = some m.cls := hown
  have hiX8 : ∀ w ∈ u_ws RX8 TX8 39, w ∈ wsX8_share := fun _ h => List.mem_cons_of_mem _ (List.mem_append_right _ h)
  have hl : lv_has ls 1 [(0, .ref am)] := hl
  refine lv_aload_n hx hb dX8_share_0 rfl (lv_at hl 0 rfl) ?_
  refine lv_iconst (v := 0) hx hb dX8_share_1 (by decide) ?_
  refine va_put (D := G) (ci := 9) (v := .int (0 : Int32)) (ty := .int) (C := RX8) (T := TX8) (N := 39) hx hb hts hiX8 tyX8 tyX8_ok nmX8 hown hK hP hD hS 12 hm rfl 0 (by decide) (hts (.fieldLink RX8 86 "VortexpinModel" "thrown" "I") (List.mem_of_getElem? (i := 1) rfl)) (fun _ h9 => h9) rfl (by decide +kernel) (rfl) (rfl) (Nat.le_of_ble_eq_true rfl) dX8_share_2 (fun H locs hP hD hS => ?_)
  have hP : va_P G vwCl ((ws).set 12 (am, .inr (9, mF ad (upd z 0 (0 : Int32)) wi dm))) H := hP
  have hD : va_D A ((ws).set 12 (am, .inr (9, mF ad (upd z 0 (0 : Int32)) wi dm))) := hD
  have hm := va_ge (e := (am, .inr (9, mF ad (upd z 0 (0 : Int32)) wi dm))) hm
  refine lv_aload_n hx hb dX8_share_5 rfl (lv_at hl 0 rfl) ?_
  refine va_get (D := G) (ci := 9) (v := .long wi) (C := RX8) (T := TX8) (N := 39) hx hb hts hiX8 hown hK hP 12 hm rfl 24 (by decide) (hts (.fieldLink RX8 169 "VortexpinModel" "wire" "J") (List.mem_of_getElem? (i := 2) rfl)) (fun _ h9 => h9) rfl dX8_share_6 ?_
  refine lv_aload_n hx hb dX8_share_9 rfl (lv_at hl 0 rfl) ?_
  refine va_get (D := G) (ci := 9) (v := .long dm) (C := RX8) (T := TX8) (N := 39) hx hb hts hiX8 hown hK hP 12 hm rfl 25 (by decide) (hts (.fieldLink RX8 173 "VortexpinModel" "dump" "J") (List.mem_of_getElem? (i := 3) rfl)) (fun _ h9 => h9) rfl dX8_share_10 ?_
  refine lv_ladd hx hb dX8_share_13 ?_
  refine lv_lconst (v := 0) hx hb dX8_share_14 (by decide) ?_
  refine W.lcmp hx hb dX8_share_15 ?_
  refine lv_if_ne (tgt := 23) hx hb dX8_share_16 (by decide) (fun c16 => ?_) (fun c16 => ?_)
  · refine lv_aload_n hx hb dX8_share_23 rfl (lv_at hl 0 rfl) ?_
    refine va_get (D := G) (ci := 9) (v := .long wi) (C := RX8) (T := TX8) (N := 39) hx hb hts hiX8 hown hK hP 12 hm rfl 24 (by decide) (hts (.fieldLink RX8 169 "VortexpinModel" "wire" "J") (List.mem_of_getElem? (i := 2) rfl)) (fun _ h9 => h9) rfl dX8_share_24 ?_
    refine lv_l2d hx hb dX8_share_27 ?_
    refine lv_aload_n hx hb dX8_share_28 rfl (lv_at hl 0 rfl) ?_
    refine va_get (D := G) (ci := 9) (v := .long wi) (C := RX8) (T := TX8) (N := 39) hx hb hts hiX8 hown hK hP 12 hm rfl 24 (by decide) (hts (.fieldLink RX8 169 "VortexpinModel" "wire" "J") (List.mem_of_getElem? (i := 2) rfl)) (fun _ h9 => h9) rfl dX8_share_29 ?_
    refine lv_aload_n hx hb dX8_share_32 rfl (lv_at hl 0 rfl) ?_
    refine va_get (D := G) (ci := 9) (v := .long dm) (C := RX8) (T := TX8) (N := 39) hx hb hts hiX8 hown hK hP 12 hm rfl 25 (by decide) (hts (.fieldLink RX8 173 "VortexpinModel" "dump" "J") (List.mem_of_getElem? (i := 3) rfl)) (fun _ h9 => h9) rfl dX8_share_33 ?_
    refine lv_ladd hx hb dX8_share_36 ?_
    refine lv_l2d hx hb dX8_share_37 ?_
    refine lv_ddiv hx hb dX8_share_38 (share_nn _ (fun h => c16 ((lg_cmp_eq _ _).mpr h))) ?_
    exact W.dret (v := FP.ddiv (FP.l2d wi) (FP.l2d (wi + dm))) hx hb hr (fun t ht hW => ⟨⟨FP.ddiv (FP.l2d wi) (FP.l2d (wi + dm)), (), rfl, (by rw [lg_cmp_eq] at c16; simp only [cShare, c16, ↓reduceIte, not_true_eq_false, not_false_eq_true]), by show va_P G vwCl _ t.heap ∧ va_D A _; rw [ht]; exact ⟨hP, hD⟩⟩, hS.F ht⟩) hS.2.2 dX8_share_39
  · refine lv_dconst0 hx hb dX8_share_19 ?_
    refine lv_goto (tgt := 39) hx hb dX8_share_20 (by decide) ?_
    exact W.dret (v := FP.dconst0) hx hb hr (fun t ht hW => ⟨⟨FP.dconst0, (), rfl, (by rw [lg_cmp_eq] at c16; simp only [cShare, (eq_true c16), ↓reduceIte, not_true_eq_false, not_false_eq_true]), by show va_P G vwCl _ t.heap ∧ va_D A _; rw [ht]; exact ⟨hP, hD⟩⟩, hS.F ht⟩) hS.2.2 dX8_share_39
