set_option maxHeartbeats 4000000 in
set_option maxRecDepth 100000 in
theorem metX7_fluxT (l : Launch) (hnt : l.stackTraces = false) (G : va_G) (tys : List (ClassId × FieldType)) {A : Nat → Prop} {tE mi : Nat} (ws : va_W) {cO : ClassId} (htO : tO tys cO) {pv v aS af aR ao ak aP aC : Nat} (hv : ws[pv]? = some (v, .inr (8, [.ref aS, .ref af, .ref aR, .ref ao, .ref ak, .ref aP, .ref aC]))) {pR qR nR : Nat} {eR : Nat → Nat} (hR9 : lsL ws tE cO pR aR nR eR qR) {gR : Nat → Nat} {ri rc rf rn rs : Nat → Int32} (hRg : ∀ i, i < nR → ws[gR i]? = some (eR i, .inr (6, [.int (ri i), .int (rc i), .int (rf i), .int (rn i), .int (rs i)]))) (x f : Int32) (hterm : ¬ uK x (nI nR) → ¬ oR f (-1000000) 1000000 → ∃ j, j < 1000000 ∧ rStop (ri x.toNatClampNeg) (rc x.toNatClampNeg) f (rIt (ri x.toNatClampNeg) f (rn x.toNatClampNeg) j)) : vx_Met l yX7_flux wsX7_flux { frames := 7, cells := 2, slots := 12, locals := 104 } (pcX G tys ws A tE mi [.ref v, .int x, .int f]) (va_Qi (fun (r : Int32) (u : Nat) => cdFlux x f (nI nR) = 0 ∧ r = rIt (ri x.toNatClampNeg) f (rn x.toNatClampNeg) u - rn x.toNatClampNeg ∧ rStop (ri x.toNatClampNeg) (rc x.toNatClampNeg) f (rIt (ri x.toNatClampNeg) f (rn x.toNatClampNeg) u) ∧ ∀ j, j < u → ¬ rStop (ri x.toNatClampNeg) (rc x.toNatClampNeg) f (rIt (ri x.toNatClampNeg) f (rn x.toNatClampNeg) j)) (fun u t => va_P G vwCl (ws.set (gR x.toNatClampNeg) (eR x.toNatClampNeg, .inr (6, [.int (ri x.toNatClampNeg), .int (rc x.toNatClampNeg), .int f, .int (rIt (ri x.toNatClampNeg) f (rn x.toNatClampNeg) u), .int (rs x.toNatClampNeg + nI u)]))) t.heap ∧ va_D A (ws.set (gR x.toNatClampNeg) (eR x.toNatClampNeg, .inr (6, [.int (ri x.toNatClampNeg), .int (rc x.toNatClampNeg), .int f, .int (rIt (ri x.toNatClampNeg) f (rn x.toNatClampNeg) u), .int (rs x.toNatClampNeg + nI u)])))) A) (xcT (fun E => xC (cdFlux x f (nI nR)) eIB eIA "" E)) 2 12 A := by
  refine ofX (cc := cX7_flux) (maxL := 4) (ret := some .int) (by decide) rfl (Nat.le_of_ble_eq_true rfl) ?_
  intro p e s m below meth c ls hx hb hr hlocks hml hown hts hno hl hP hK hD hA hS hE
  have hown : s.vm.findClass RX7 = some m.cls := hown
  have hiX5 : ∀ w ∈ u_ws RX5 TX5 5, w ∈ wsX7_flux := fun _ h => List.mem_cons_of_mem _ (List.mem_append_left _ (List.mem_append_left _ (List.mem_append_left _ (List.mem_append_right _ h))))
  have hiX7 : ∀ w ∈ u_ws RX7 TX7 7, w ∈ wsX7_flux := fun _ h => List.mem_cons_of_mem _ (List.mem_append_left _ (List.mem_append_left _ (List.mem_append_left _ (List.mem_append_left _ (List.mem_append_right _ h)))))
  have hl : lv_has ls 4 [(0, .ref v), (1, .int x), (2, .int f)] := hl
  have hO : okO s s.heap := ⟨Nat.le_refl _, fun _ _ => rfl⟩
  refine lv_iload_n hx hb dX7_flux_0 rfl (lv_at hl 1 rfl) ?_
  refine lv_aload_n hx hb dX7_flux_1 rfl (lv_at hl 0 rfl) ?_
  refine va_get (D := G) (ci := 8) (v := .ref aR) (C := RX7) (T := TX7) (N := 7) hx hb hts hiX7 hown hK hP pv hv rfl 2 (by decide) (hts (.fieldLink RX7 23 "Vortexpin" "rings" "Ljava/util/ArrayList;") (List.mem_of_getElem? (i := 1) rfl)) (fun _ h9 => h9) rfl dX7_flux_2 ?_
  obtain ⟨mosz5, aesz5, hLsz5⟩ := lsL_cell hR9
  refine vp_callSi (va_Run.run (va_runV (As := []) (rest := [.int x]) ⟨hx, hb, hml, hown, hts⟩ (metSize l G tys _ hR9) (cwV 0 hts gX7_flux_Jx4a65c_size_8abf5 rfl rfl rfl (by decide +kernel) ⟨Nat.le_of_ble_eq_true rfl, Nat.le_of_ble_eq_true rfl⟩) ⟨pcR_b, va_recv hK hP (ci := 0) (q0 := pR) rfl hLsz5, pcR_u hP hK⟩ rfl rfl hl.1 rfl (lv_room (Nat.le_of_ble_eq_true rfl)) dX7_flux_5 ⟨Nat.le_of_ble_eq_true rfl, Nat.le_of_ble_eq_true rfl⟩)) (fun r5 h5 => ?_)
  subst h5
  refine ref_step (vx_runS (As := [.int x, .int (nI nR)]) (rest := []) ⟨hx, hb, hml, hown, hts⟩ (metX7_refuseUnknown l hnt x (nI nR)) (va_cwS 2 hts gX7_flux_X7_refuseUnknown rfl rfl rfl (by decide +kernel) ⟨Nat.le_of_ble_eq_true rfl, Nat.le_of_ble_eq_true rfl⟩) ⟨pcE_b, pcE_u hE hS hA⟩ rfl rfl hl.1 rfl (lv_room (Nat.le_of_ble_eq_true rfl)) dX7_flux_8 ⟨Nat.le_of_ble_eq_true rfl, Nat.le_of_ble_eq_true rfl⟩) hno hlocks hS hO hP (fun hbd => Or.inl ⟨by unfold cdFlux; rw [if_pos hbd], rfl⟩) (Nat.le_of_ble_eq_true rfl) (Nat.le_of_ble_eq_true rfl) (fun k0 H locs hS hO hP => ?_)
  have hs := hRg x.toNatClampNeg (uK_ix k0).2
  refine lv_iload_n hx hb dX7_flux_11 rfl (lv_at hl 2 rfl) ?_
  refine lv_ldc (v := -1000000) hx hb hown (hts (.constant RX7 121 (-1000000)) (List.mem_of_getElem? (i := 2) rfl)) dX7_flux_12 ?_
  refine lv_ldc (v := 1000000) hx hb hown (hts (.constant RX7 122 (1000000)) (List.mem_of_getElem? (i := 3) rfl)) dX7_flux_14 ?_
  refine ref_step (vx_runS (As := [.int f, .int (-1000000 : Int32), .int (1000000 : Int32)]) (rest := []) ⟨hx, hb, hml, hown, hts⟩ (metX7_refuseOutside l hnt f (-1000000 : Int32) (1000000 : Int32)) (va_cwS 3 hts gX7_flux_X7_refuseOutside rfl rfl rfl (by decide +kernel) ⟨Nat.le_of_ble_eq_true rfl, Nat.le_of_ble_eq_true rfl⟩) ⟨pcE_b, pcE_u hE hS hA⟩ rfl rfl hl.1 rfl (lv_room (Nat.le_of_ble_eq_true rfl)) dX7_flux_16 ⟨Nat.le_of_ble_eq_true rfl, Nat.le_of_ble_eq_true rfl⟩) hno hlocks hS hO hP (fun hbd => Or.inr (Or.inl ⟨by unfold cdFlux; rw [if_neg k0, if_pos hbd], rfl⟩)) (Nat.le_of_ble_eq_true rfl) (Nat.le_of_ble_eq_true rfl) (fun k1 H locs hS hO hP => ?_)
  refine lv_aload_n hx hb dX7_flux_19 rfl (lv_at hl 0 rfl) ?_
  refine va_get (D := G) (ci := 8) (v := .ref aR) (C := RX7) (T := TX7) (N := 7) hx hb hts hiX7 hown hK hP pv hv rfl 2 (by decide) (hts (.fieldLink RX7 23 "Vortexpin" "rings" "Ljava/util/ArrayList;") (List.mem_of_getElem? (i := 1) rfl)) (fun _ h9 => h9) rfl dX7_flux_20 ?_
  refine lv_iload_n hx hb dX7_flux_23 rfl (lv_at hl 1 rfl) ?_
  obtain ⟨mogt24, aegt24, hLgt24⟩ := lsL_cell hR9
  refine va_csq (va_Run.run (va_runV (As := [.int x]) (rest := []) ⟨hx, hb, hml, hown, hts⟩ (metGet l G tys _ htO hR9 x k0) (cwV 1 hts gX7_flux_Jx4a65c_get_915e3 rfl rfl rfl (by decide +kernel) ⟨Nat.le_of_ble_eq_true rfl, Nat.le_of_ble_eq_true rfl⟩) ⟨pcR_b, va_recv hK hP (ci := 0) (q0 := pR) rfl hLgt24, pcR_u hP hK⟩ rfl rfl hl.1 rfl (lv_room (Nat.le_of_ble_eq_true rfl)) dX7_flux_24 ⟨Nat.le_of_ble_eq_true rfl, Nat.le_of_ble_eq_true rfl⟩)) (fun r24 h24 => ?_)
  refine rf_q h24 ?_
  refine va_castE hx hb hown (hts (.classLink RX7 117 "Vortexpin$Ring") (List.mem_of_getElem? (i := 4) rfl)) (va_recv hK hP (ci := 6) (q0 := (gR x.toNatClampNeg)) rfl hs) dX7_flux_27 ?_
  refine lv_astore_n (lv' := [(3, .ref (eR x.toNatClampNeg)), (0, .ref v), (1, .int x), (2, .int f)]) hx hb dX7_flux_30 rfl hl (by decide) rfl (fun ls hl => ?_)
  refine lv_aload_n hx hb dX7_flux_31 rfl (lv_at hl 0 rfl) ?_
  refine lv_iload_n hx hb dX7_flux_32 rfl (lv_at hl 3 rfl) ?_
  refine va_put (D := G) (ci := 6) (v := .int f) (ty := .int) (C := RX5) (T := TX5) (N := 5) hx hb hts hiX5 tyX5 tyX5_ok nmX5 hown hK hP hD hS (gR x.toNatClampNeg) hs rfl 2 (by decide) (hts (.fieldLink RX7 123 "Vortexpin$Ring" "flux" "I") (List.mem_of_getElem? (i := 5) rfl)) (fun _ h9 => h9) rfl (by decide +kernel) (rfl) (rfl) (Nat.le_of_ble_eq_true rfl) dX7_flux_33 (fun H locs hP hD hS => ?_)
  have hv := va_gs (k := (gR x.toNatClampNeg)) (e := (eR x.toNatClampNeg, .inr (6, [.int (ri x.toNatClampNeg), .int (rc x.toNatClampNeg), .int f, .int (rn x.toNatClampNeg), .int (rs x.toNatClampNeg)]))) (ne_oo hv hs (by decide)) hv
  have hs := va_ge (e := (eR x.toNatClampNeg, .inr (6, [.int (ri x.toNatClampNeg), .int (rc x.toNatClampNeg), .int f, .int (rn x.toNatClampNeg), .int (rs x.toNatClampNeg)]))) hs
  refine lv_aload_n hx hb dX7_flux_36 rfl (lv_at hl 0 rfl) ?_
  refine va_calli (va_runV (As := []) (rest := []) ⟨hx, hb, hml, hown, hts⟩ (metX5_settle l G tys _ hs (hterm k0 k1)) (cwV 0 hts gX7_flux_X5_settle rfl rfl rfl (by decide +kernel) ⟨Nat.le_of_ble_eq_true rfl, Nat.le_of_ble_eq_true rfl⟩) ⟨pcM_b, va_recv hK hP (ci := 6) (q0 := (gR x.toNatClampNeg)) rfl hs, pcM_u hP hK hD hS hA⟩ rfl rfl hl.1 rfl (lv_room (Nat.le_of_ble_eq_true rfl)) dX7_flux_37 ⟨Nat.le_of_ble_eq_true rfl, Nat.le_of_ble_eq_true rfl⟩) hS (fun q _ h => h) (fun q h => h) (fun r37 u t H locs ht hvm h37 hB hsz hk1 hS => ?_)
  rw [ht] at hB
  have hD := hD.set (e := .inr (6, [.int (ri x.toNatClampNeg), .int (rc x.toNatClampNeg), .int f, .int (rIt (ri x.toNatClampNeg) f (rn x.toNatClampNeg) u), .int (rs x.toNatClampNeg + nI u)])) hs
  have hv := va_gs (k := (gR x.toNatClampNeg)) (e := (eR x.toNatClampNeg, .inr (6, [.int (ri x.toNatClampNeg), .int (rc x.toNatClampNeg), .int f, .int (rIt (ri x.toNatClampNeg) f (rn x.toNatClampNeg) u), .int (rs x.toNatClampNeg + nI u)]))) (ne_oo hv hs (by decide)) hv
  have hs := va_ge (e := (eR x.toNatClampNeg, .inr (6, [.int (ri x.toNatClampNeg), .int (rc x.toNatClampNeg), .int f, .int (rIt (ri x.toNatClampNeg) f (rn x.toNatClampNeg) u), .int (rs x.toNatClampNeg + nI u)]))) hs
  have hP : va_P G vwCl (((ws).set (gR x.toNatClampNeg) (eR x.toNatClampNeg, .inr (6, [.int (ri x.toNatClampNeg), .int (rc x.toNatClampNeg), .int f, .int (rn x.toNatClampNeg), .int (rs x.toNatClampNeg)]))).set (gR x.toNatClampNeg) (eR x.toNatClampNeg, .inr (6, [.int (ri x.toNatClampNeg), .int (rc x.toNatClampNeg), .int f, .int (rIt (ri x.toNatClampNeg) f (rn x.toNatClampNeg) u), .int (rs x.toNatClampNeg + nI u)]))) H := hB
  have hD : va_D A (((ws).set (gR x.toNatClampNeg) (eR x.toNatClampNeg, .inr (6, [.int (ri x.toNatClampNeg), .int (rc x.toNatClampNeg), .int f, .int (rn x.toNatClampNeg), .int (rs x.toNatClampNeg)]))).set (gR x.toNatClampNeg) (eR x.toNatClampNeg, .inr (6, [.int (ri x.toNatClampNeg), .int (rc x.toNatClampNeg), .int f, .int (rIt (ri x.toNatClampNeg) f (rn x.toNatClampNeg) u), .int (rs x.toNatClampNeg + nI u)]))) := hD
  refine W.widen (k := 2) (n := 12) (Nat.le_of_ble_eq_true rfl) (Nat.le_of_ble_eq_true rfl) (vx_ret ?_)
  have ew : ((ws).set (gR x.toNatClampNeg) (eR x.toNatClampNeg, .inr (6, [.int (ri x.toNatClampNeg), .int (rc x.toNatClampNeg), .int f, .int (rn x.toNatClampNeg), .int (rs x.toNatClampNeg)]))).set (gR x.toNatClampNeg) (eR x.toNatClampNeg, .inr (6, [.int (ri x.toNatClampNeg), .int (rc x.toNatClampNeg), .int f, .int (rIt (ri x.toNatClampNeg) f (rn x.toNatClampNeg) u), .int (rs x.toNatClampNeg + nI u)])) = ws.set (gR x.toNatClampNeg) (eR x.toNatClampNeg, .inr (6, [.int (ri x.toNatClampNeg), .int (rc x.toNatClampNeg), .int f, .int (rIt (ri x.toNatClampNeg) f (rn x.toNatClampNeg) u), .int (rs x.toNatClampNeg + nI u)])) := by simp only [List.set_set, ↓reduceIte, not_true_eq_false, not_false_eq_true]
  have hP : va_P G vwCl (((ws).set (gR x.toNatClampNeg) (eR x.toNatClampNeg, .inr (6, [.int (ri x.toNatClampNeg), .int (rc x.toNatClampNeg), .int f, .int (rn x.toNatClampNeg), .int (rs x.toNatClampNeg)]))).set (gR x.toNatClampNeg) (eR x.toNatClampNeg, .inr (6, [.int (ri x.toNatClampNeg), .int (rc x.toNatClampNeg), .int f, .int (rIt (ri x.toNatClampNeg) f (rn x.toNatClampNeg) u), .int (rs x.toNatClampNeg + nI u)]))) H := hP
  have hD : va_D A (((ws).set (gR x.toNatClampNeg) (eR x.toNatClampNeg, .inr (6, [.int (ri x.toNatClampNeg), .int (rc x.toNatClampNeg), .int f, .int (rn x.toNatClampNeg), .int (rs x.toNatClampNeg)]))).set (gR x.toNatClampNeg) (eR x.toNatClampNeg, .inr (6, [.int (ri x.toNatClampNeg), .int (rc x.toNatClampNeg), .int f, .int (rIt (ri x.toNatClampNeg) f (rn x.toNatClampNeg) u), .int (rs x.toNatClampNeg + nI u)]))) := hD
  rw [ew] at hP hD
  exact W.iret (v := r37) hx hb hr (fun t ht hW => ⟨⟨r37, u, rfl, ⟨by unfold cdFlux; rw [if_neg k0, if_neg k1], h37⟩, by show va_P G vwCl _ t.heap ∧ va_D A _; rw [ht]; exact ⟨hP, hD⟩⟩, hS.F ht⟩) hS.2.2 dX7_flux_40
set_option maxHeartbeats 4000000 in
set_option maxRecDepth 100000 in
theorem metX8_fluxT (l : Launch) (G : va_G) (tys : List (ClassId × FieldType)) {cI : ClassId} (htI : tI tys cI) {A : Nat → Prop} (ws : va_W) {am : Nat} {ad : Nat → Nat} {z : Nat → Int32} {wi dm : Int64} {F : Nat → Nat → Int32} (hm : ws[12]? = some (am, .inr (9, mF ad z wi dm))) (hA21 : ws[21]? = some (ad 21, .inl (cI, 6, .inl (F 21)))) (hA22 : ws[22]? = some (ad 22, .inl (cI, 6, .inl (F 22)))) (hA23 : ws[23]? = some (ad 23, .inl (cI, 6, .inl (F 23)))) (hA24 : ws[24]? = some (ad 24, .inl (cI, 6, .inl (F 24)))) (hA25 : ws[25]? = some (ad 25, .inl (cI, 6, .inl (F 25)))) {nR : Nat} (hz13 : z 13 = nI nR) (h60nR : nR ≤ 6) (hi0 : ∀ i, i < nR → ¬ F 21 i = 0) (x f : Int32) (hterm : ¬ uK x (nI nR) → ¬ oR f (-1000000) 1000000 → ∃ j, j < 1000000 ∧ rStop (F 21 x.toNatClampNeg) (F 22 x.toNatClampNeg) f (rIt (F 21 x.toNatClampNeg) f (F 24 x.toNatClampNeg) j)) : Met l yX8_flux wsX8_flux ({ frames := 1, cells := 0, slots := 0, locals := 22 }) (pcM G tys ws A [.ref am, .int x, .int f]) (va_Qi (fun (r : Int32) (u : Nat) => cdFlux x f (nI nR) = 0 → r = (rIt (F 21 x.toNatClampNeg) f (F 24 x.toNatClampNeg) u) - (F 24 x.toNatClampNeg) ∧ rStop (F 21 x.toNatClampNeg) (F 22 x.toNatClampNeg) f (rIt (F 21 x.toNatClampNeg) f (F 24 x.toNatClampNeg) u) ∧ ∀ j, j < u → ¬ (rStop (F 21 x.toNatClampNeg) (F 22 x.toNatClampNeg) f (rIt (F 21 x.toNatClampNeg) f (F 24 x.toNatClampNeg) j))) (fun u t => va_P G vwCl (if cdFlux x f (nI nR) = 0 then (((ws.set 12 (am, .inr (9, mF ad (upd z 0 0) wi dm))).set 23 (ad 23, .inl (cI, 6, .inl (upd (F 23) x.toNatClampNeg f)))).set 24 (ad 24, .inl (cI, 6, .inl (upd (F 24) x.toNatClampNeg (rIt (F 21 x.toNatClampNeg) f (F 24 x.toNatClampNeg) u))))).set 25 (ad 25, .inl (cI, 6, .inl (upd (F 25) x.toNatClampNeg (F 25 x.toNatClampNeg + nI u)))) else ws.set 12 (am, .inr (9, mF ad (upd z 0 (cdFlux x f (nI nR))) wi dm))) t.heap ∧ va_D A (if cdFlux x f (nI nR) = 0 then (((ws.set 12 (am, .inr (9, mF ad (upd z 0 0) wi dm))).set 23 (ad 23, .inl (cI, 6, .inl (upd (F 23) x.toNatClampNeg f)))).set 24 (ad 24, .inl (cI, 6, .inl (upd (F 24) x.toNatClampNeg (rIt (F 21 x.toNatClampNeg) f (F 24 x.toNatClampNeg) u))))).set 25 (ad 25, .inl (cI, 6, .inl (upd (F 25) x.toNatClampNeg (F 25 x.toNatClampNeg + nI u)))) else ws.set 12 (am, .inr (9, mF ad (upd z 0 (cdFlux x f (nI nR))) wi dm)))) A) 0 0 A := by
  refine ofM (cc := cX8_flux) (maxL := 7) (ret := some .int) (by decide) rfl (Nat.le_of_ble_eq_true rfl) ?_
  intro p e s m below meth c ls hx hb hr hlocks hml hown hts hin hl hP hK hD hA hS
  have hown : s.vm.findClass RX8 = some m.cls := hown
  have hiX8 : ∀ w ∈ u_ws RX8 TX8 39, w ∈ wsX8_flux := fun _ h => List.mem_cons_of_mem _ (List.mem_append_right _ h)
  have hl : lv_has ls 7 [(0, .ref am), (1, .int x), (2, .int f)] := hl
  refine lv_aload_n hx hb dX8_flux_0 rfl (lv_at hl 0 rfl) ?_
  refine lv_iconst (v := 0) hx hb dX8_flux_1 (by decide) ?_
  refine va_put (D := G) (ci := 9) (v := .int (0 : Int32)) (ty := .int) (C := RX8) (T := TX8) (N := 39) hx hb hts hiX8 tyX8 tyX8_ok nmX8 hown hK hP hD hS 12 hm rfl 0 (by decide) (hts (.fieldLink RX8 86 "VortexpinModel" "thrown" "I") (List.mem_of_getElem? (i := 1) rfl)) (fun _ h9 => h9) rfl (by decide +kernel) (rfl) (rfl) (Nat.le_of_ble_eq_true rfl) dX8_flux_2 (fun H locs hP hD hS => ?_)
  have hP : va_P G vwCl ((ws).set 12 (am, .inr (9, mF ad (upd z 0 (0 : Int32)) wi dm))) H := hP
  have hD : va_D A ((ws).set 12 (am, .inr (9, mF ad (upd z 0 (0 : Int32)) wi dm))) := hD
  have hA21 := va_gs (k := 12) (e := (am, .inr (9, mF ad (upd z 0 (0 : Int32)) wi dm))) (by decide) hA21
  have hA22 := va_gs (k := 12) (e := (am, .inr (9, mF ad (upd z 0 (0 : Int32)) wi dm))) (by decide) hA22
  have hA23 := va_gs (k := 12) (e := (am, .inr (9, mF ad (upd z 0 (0 : Int32)) wi dm))) (by decide) hA23
  have hA24 := va_gs (k := 12) (e := (am, .inr (9, mF ad (upd z 0 (0 : Int32)) wi dm))) (by decide) hA24
  have hA25 := va_gs (k := 12) (e := (am, .inr (9, mF ad (upd z 0 (0 : Int32)) wi dm))) (by decide) hA25
  have hm := va_ge (e := (am, .inr (9, mF ad (upd z 0 (0 : Int32)) wi dm))) hm
  refine lv_iload_n hx hb dX8_flux_5 rfl (lv_at hl 1 rfl) ?_
  refine lv_iconst (v := 0) hx hb dX8_flux_6 (by decide) ?_
  refine lv_aload_n hx hb dX8_flux_7 rfl (lv_at hl 0 rfl) ?_
  refine va_get (D := G) (ci := 9) (v := .int (z 13)) (C := RX8) (T := TX8) (N := 39) hx hb hts hiX8 hown hK hP 12 hm rfl 13 (by decide) (hts (.fieldLink RX8 139 "VortexpinModel" "rings" "I") (List.mem_of_getElem? (i := 2) rfl)) (fun _ h9 => h9) rfl dX8_flux_8 ?_
  refine lv_iconst (v := 1) hx hb dX8_flux_11 (by decide) ?_
  refine lv_isub hx hb dX8_flux_12 ?_
  refine vp_callSi (va_Run.run (va_runS (As := [.int x, .int (0 : Int32), .int ((z 13) - (1 : Int32))]) (rest := []) ⟨hx, hb, hml, hown, hts⟩ (metX8_in l x (0 : Int32) ((z 13) - (1 : Int32))) (va_cwS 3 hts gX8_flux_X8_in rfl rfl rfl (by decide +kernel) ⟨Nat.le_of_ble_eq_true rfl, Nat.le_of_ble_eq_true rfl⟩) ⟨pc0_b, pc0_u⟩ rfl rfl hl.1 rfl (lv_room (Nat.le_of_ble_eq_true rfl)) dX8_flux_13 ⟨Nat.le_of_ble_eq_true rfl, Nat.le_of_ble_eq_true rfl⟩)) (fun r13 h13 => ?_)
  refine lv_if_ne (tgt := 25) hx hb dX8_flux_16 (by decide) (fun c16 => ?_) (fun c16 => ?_)
  · have k0 : ¬ (uK x (nI nR)) := fun q9 => c16 (h13.trans (mIn_0.mpr ((oR_uK (by rw [hz13]) (show nR < 2 ^ 31 by omega)).mpr q9)))
    refine lv_iload_n hx hb dX8_flux_25 rfl (lv_at hl 2 rfl) ?_
    refine lv_ldc (v := -1000000) hx hb hown (hts (.constant RX8 142 (-1000000)) (List.mem_of_getElem? (i := 3) rfl)) dX8_flux_26 ?_
    refine lv_ldc (v := 1000000) hx hb hown (hts (.constant RX8 143 (1000000)) (List.mem_of_getElem? (i := 4) rfl)) dX8_flux_28 ?_
    refine vp_callSi (va_Run.run (va_runS (As := [.int f, .int (-1000000 : Int32), .int (1000000 : Int32)]) (rest := []) ⟨hx, hb, hml, hown, hts⟩ (metX8_in l f (-1000000 : Int32) (1000000 : Int32)) (va_cwS 3 hts gX8_flux_X8_in rfl rfl rfl (by decide +kernel) ⟨Nat.le_of_ble_eq_true rfl, Nat.le_of_ble_eq_true rfl⟩) ⟨pc0_b, pc0_u⟩ rfl rfl hl.1 rfl (lv_room (Nat.le_of_ble_eq_true rfl)) dX8_flux_30 ⟨Nat.le_of_ble_eq_true rfl, Nat.le_of_ble_eq_true rfl⟩)) (fun r30 h30 => ?_)
    refine lv_if_ne (tgt := 42) hx hb dX8_flux_33 (by decide) (fun c33 => ?_) (fun c33 => ?_)
    · have k1 : ¬ (oR f (-1000000) 1000000) := fun q9 => c33 (h30.trans (mIn_0.mpr q9))
      refine lv_aload_n hx hb dX8_flux_42 rfl (lv_at hl 0 rfl) ?_
      refine va_get (D := G) (ci := 9) (v := .ref (ad 23)) (C := RX8) (T := TX8) (N := 39) hx hb hts hiX8 hown hK hP 12 hm rfl 16 (by decide) (hts (.fieldLink RX8 40 "VortexpinModel" "fluxOf" "[I") (List.mem_of_getElem? (i := 5) rfl)) (fun _ h9 => h9) rfl dX8_flux_43 ?_
      refine lv_iload_n hx hb dX8_flux_46 rfl (lv_at hl 1 rfl) ?_
      refine lv_iload_n hx hb dX8_flux_47 rfl (lv_at hl 2 rfl) ?_
      refine va_iast hx hb hK hP hD hS 23 0 hA23 htI (vp_uK (n := 6) (fun q9 => k0 (uK_up q9 h60nR (by decide)))) dX8_flux_48 (fun H locs hP hD hS => ?_)
      have hm := va_gs (k := 23) (e := (ad 23, .inl (cI, 6, .inl (upd (F 23) x.toNatClampNeg f)))) (by decide) hm
      have hA21 := va_gs (k := 23) (e := (ad 23, .inl (cI, 6, .inl (upd (F 23) x.toNatClampNeg f)))) (by decide) hA21
      have hA22 := va_gs (k := 23) (e := (ad 23, .inl (cI, 6, .inl (upd (F 23) x.toNatClampNeg f)))) (by decide) hA22
      have hA24 := va_gs (k := 23) (e := (ad 23, .inl (cI, 6, .inl (upd (F 23) x.toNatClampNeg f)))) (by decide) hA24
      have hA25 := va_gs (k := 23) (e := (ad 23, .inl (cI, 6, .inl (upd (F 23) x.toNatClampNeg f)))) (by decide) hA25
      have hA23 := va_ge (e := (ad 23, .inl (cI, 6, .inl (upd (F 23) x.toNatClampNeg f)))) hA23
      refine lv_iconst (v := 0) hx hb dX8_flux_49 (by decide) ?_
      refine lv_istore_n (lv' := [(3, .int (0 : Int32)), (0, .ref am), (1, .int x), (2, .int f)]) hx hb dX8_flux_50 rfl hl (by decide) rfl (fun ls hl => ?_)
      refine lv_iconst (v := 1) hx hb dX8_flux_51 (by decide) ?_
      refine lv_istore (lv' := [(4, .int (1 : Int32)), (3, .int (0 : Int32)), (0, .ref am), (1, .int x), (2, .int f)]) hx hb dX8_flux_52 hl (by decide) rfl (fun ls hl => ?_)
      obtain ⟨jT, hjT, hjs⟩ := hterm k0 k1
      have hself : (((ws.set 12 (am, .inr (9, mF ad (upd z 0 0) wi dm))).set 23 (ad 23, .inl (cI, 6, .inl (upd (F 23) x.toNatClampNeg f)))).set 24 (ad 24, .inl (cI, 6, .inl (upd (F 24) x.toNatClampNeg (rIt (F 21 x.toNatClampNeg) f (F 24 x.toNatClampNeg) 0))))).set 25 (ad 25, .inl (cI, 6, .inl (upd (F 25) x.toNatClampNeg (F 25 x.toNatClampNeg + nI 0)))) = (ws.set 12 (am, .inr (9, mF ad (upd z 0 0) wi dm))).set 23 (ad 23, .inl (cI, 6, .inl (upd (F 23) x.toNatClampNeg f))) := by show (((ws.set 12 (am, .inr (9, mF ad (upd z 0 0) wi dm))).set 23 (ad 23, .inl (cI, 6, .inl (upd (F 23) x.toNatClampNeg f)))).set 24 (ad 24, .inl (cI, 6, .inl (upd (F 24) x.toNatClampNeg (F 24 x.toNatClampNeg))))).set 25 (ad 25, .inl (cI, 6, .inl (upd (F 25) x.toNatClampNeg (F 25 x.toNatClampNeg + nI 0)))) = _; rw [upd_self, show nI 0 = 0 from rfl, Int32.add_zero, upd_self, va_self hA24, va_self hA25]
      have hm0 := hm
      have hA210 := hA21
      have hA220 := hA22
      have hA230 := hA23
      have hA240 := hA24
      have hA250 := hA25
      have hl : lv_has ls 7 [(4, .int (1 : Int32)), (3, .int ((rIt (F 21 x.toNatClampNeg) f (F 24 x.toNatClampNeg) 0) - (F 24 x.toNatClampNeg))), (0, .ref am), (1, .int x), (2, .int f)] := by rw [show (rIt (F 21 x.toNatClampNeg) f (F 24 x.toNatClampNeg) 0) - (F 24 x.toNatClampNeg) = 0 from Int32.sub_self _]; exact hl
      refine loopM jT 54 7 (fun i => [(0, .ref am), (1, .int x), (2, .int f), (3, .int ((rIt (F 21 x.toNatClampNeg) f (F 24 x.toNatClampNeg) i) - (F 24 x.toNatClampNeg))), (4, .int (1 : Int32))]) (fun i => (((ws.set 12 (am, .inr (9, mF ad (upd z 0 0) wi dm))).set 23 (ad 23, .inl (cI, 6, .inl (upd (F 23) x.toNatClampNeg f)))).set 24 (ad 24, .inl (cI, 6, .inl (upd (F 24) x.toNatClampNeg (rIt (F 21 x.toNatClampNeg) f (F 24 x.toNatClampNeg) i))))).set 25 (ad 25, .inl (cI, 6, .inl (upd (F 25) x.toNatClampNeg (F 25 x.toNatClampNeg + nI i))))) (fun i => ∀ j, j < i → ¬ (rStop (F 21 x.toNatClampNeg) (F 22 x.toNatClampNeg) f (rIt (F 21 x.toNatClampNeg) f (F 24 x.toNatClampNeg) j))) (fun i hNi hKi ihi H locs ls hP hD hS hl => ?_) (i0 := 0) (by omega) (fun _ h => absurd h (Nat.not_lt_zero _)) (by rw [hself]; exact hP) (by rw [hself]; exact hD) hS (lv_sub hl [2, 3, 4, 1, 0] rfl)
      have hl : lv_has ls 7 [(0, .ref am), (1, .int x), (2, .int f), (3, .int ((rIt (F 21 x.toNatClampNeg) f (F 24 x.toNatClampNeg) i) - (F 24 x.toNatClampNeg))), (4, .int (1 : Int32))] := hl
      have hP : va_P G vwCl ((((ws.set 12 (am, .inr (9, mF ad (upd z 0 0) wi dm))).set 23 (ad 23, .inl (cI, 6, .inl (upd (F 23) x.toNatClampNeg f)))).set 24 (ad 24, .inl (cI, 6, .inl (upd (F 24) x.toNatClampNeg (rIt (F 21 x.toNatClampNeg) f (F 24 x.toNatClampNeg) i))))).set 25 (ad 25, .inl (cI, 6, .inl (upd (F 25) x.toNatClampNeg (F 25 x.toNatClampNeg + nI i))))) H := hP
      have hD : va_D A ((((ws.set 12 (am, .inr (9, mF ad (upd z 0 0) wi dm))).set 23 (ad 23, .inl (cI, 6, .inl (upd (F 23) x.toNatClampNeg f)))).set 24 (ad 24, .inl (cI, 6, .inl (upd (F 24) x.toNatClampNeg (rIt (F 21 x.toNatClampNeg) f (F 24 x.toNatClampNeg) i))))).set 25 (ad 25, .inl (cI, 6, .inl (upd (F 25) x.toNatClampNeg (F 25 x.toNatClampNeg + nI i))))) := hD
      have hm := va_gs (k := 25) (e := (ad 25, .inl (cI, 6, .inl (upd (F 25) x.toNatClampNeg (F 25 x.toNatClampNeg + nI i))))) (by decide) (va_gs (k := 24) (e := (ad 24, .inl (cI, 6, .inl (upd (F 24) x.toNatClampNeg (rIt (F 21 x.toNatClampNeg) f (F 24 x.toNatClampNeg) i))))) (by decide) hm0)
      have hA21 := va_gs (k := 25) (e := (ad 25, .inl (cI, 6, .inl (upd (F 25) x.toNatClampNeg (F 25 x.toNatClampNeg + nI i))))) (by decide) (va_gs (k := 24) (e := (ad 24, .inl (cI, 6, .inl (upd (F 24) x.toNatClampNeg (rIt (F 21 x.toNatClampNeg) f (F 24 x.toNatClampNeg) i))))) (by decide) hA210)
      have hA22 := va_gs (k := 25) (e := (ad 25, .inl (cI, 6, .inl (upd (F 25) x.toNatClampNeg (F 25 x.toNatClampNeg + nI i))))) (by decide) (va_gs (k := 24) (e := (ad 24, .inl (cI, 6, .inl (upd (F 24) x.toNatClampNeg (rIt (F 21 x.toNatClampNeg) f (F 24 x.toNatClampNeg) i))))) (by decide) hA220)
      have hA23 := va_gs (k := 25) (e := (ad 25, .inl (cI, 6, .inl (upd (F 25) x.toNatClampNeg (F 25 x.toNatClampNeg + nI i))))) (by decide) (va_gs (k := 24) (e := (ad 24, .inl (cI, 6, .inl (upd (F 24) x.toNatClampNeg (rIt (F 21 x.toNatClampNeg) f (F 24 x.toNatClampNeg) i))))) (by decide) hA230)
      have hA24 := va_gs (k := 25) (e := (ad 25, .inl (cI, 6, .inl (upd (F 25) x.toNatClampNeg (F 25 x.toNatClampNeg + nI i))))) (by decide) (va_ge (e := (ad 24, .inl (cI, 6, .inl (upd (F 24) x.toNatClampNeg (rIt (F 21 x.toNatClampNeg) f (F 24 x.toNatClampNeg) i))))) hA240)
      have hA25 : ((((ws.set 12 (am, .inr (9, mF ad (upd z 0 0) wi dm))).set 23 (ad 23, .inl (cI, 6, .inl (upd (F 23) x.toNatClampNeg f)))).set 24 (ad 24, .inl (cI, 6, .inl (upd (F 24) x.toNatClampNeg (rIt (F 21 x.toNatClampNeg) f (F 24 x.toNatClampNeg) i))))).set 25 (ad 25, .inl (cI, 6, .inl (upd (F 25) x.toNatClampNeg (F 25 x.toNatClampNeg + nI i)))))[25]? = _ := va_ge (e := (ad 25, .inl (cI, 6, .inl (upd (F 25) x.toNatClampNeg (F 25 x.toNatClampNeg + nI i))))) (va_gs (k := 24) (e := (ad 24, .inl (cI, 6, .inl (upd (F 24) x.toNatClampNeg (rIt (F 21 x.toNatClampNeg) f (F 24 x.toNatClampNeg) i))))) (by decide) hA250)
      refine lv_iload hx hb dX8_flux_54 (lv_at hl 4 rfl) ?_
      refine lv_if_eq (tgt := 164) hx hb dX8_flux_56 (by decide) (fun c56 => absurd c56 (by decide)) (fun c56 => ?_)
      refine lv_aload_n hx hb dX8_flux_59 rfl (lv_at hl 0 rfl) ?_
      refine lv_iload_n hx hb dX8_flux_60 rfl (lv_at hl 1 rfl) ?_
      refine lv_aload_n hx hb dX8_flux_61 rfl (lv_at hl 0 rfl) ?_
      refine va_get (D := G) (ci := 9) (v := .ref (ad 24)) (C := RX8) (T := TX8) (N := 39) hx hb hts hiX8 hown hK hP 12 hm rfl 17 (by decide) (hts (.fieldLink RX8 43 "VortexpinModel" "number" "[I") (List.mem_of_getElem? (i := 6) rfl)) (fun _ h9 => h9) rfl dX8_flux_62 ?_
      refine lv_iload_n hx hb dX8_flux_65 rfl (lv_at hl 1 rfl) ?_
      refine va_iald hx hb hK hP 24 0 hA24 htI (vp_uK (n := 6) (fun q9 => k0 (uK_up q9 h60nR (by decide)))) dX8_flux_66 ?_
      refine re_i (y := (rIt (F 21 x.toNatClampNeg) f (F 24 x.toNatClampNeg) i)) (by unfold upd; rw [if_pos rfl]) ?_
      refine vp_callSi (va_Run.run (va_runV (As := [.int x, .int (rIt (F 21 x.toNatClampNeg) f (F 24 x.toNatClampNeg) i)]) (rest := []) ⟨hx, hb, hml, hown, hts⟩ (metX8_currentBy l G tys htI _ (F := updF F 23 (upd (F 23) x.toNatClampNeg f)) hm hA23 hA21 x (rIt (F 21 x.toNatClampNeg) f (F 24 x.toNatClampNeg) i) (fun q9 => k0 (uK_up q9 h60nR (by decide))) (hi0 _ (uK_ix k0).2)) (cwV 2 hts gX8_flux_X8_currentBy rfl rfl rfl (by decide +kernel) ⟨Nat.le_of_ble_eq_true rfl, Nat.le_of_ble_eq_true rfl⟩) ⟨pcR_b, va_recv hK hP (ci := 9) (q0 := 12) rfl hm, pcR_u hP hK⟩ rfl rfl hl.1 rfl (lv_room (Nat.le_of_ble_eq_true rfl)) dX8_flux_67 ⟨Nat.le_of_ble_eq_true rfl, Nat.le_of_ble_eq_true rfl⟩)) (fun r67 h67 => ?_)
      have h67 : r67 = rCur (F 21 x.toNatClampNeg) f (rIt (F 21 x.toNatClampNeg) f (F 24 x.toNatClampNeg) i) := h67.trans (by show rCur _ (upd (F 23) x.toNatClampNeg f x.toNatClampNeg) _ = _; unfold upd; rw [if_pos rfl]; rfl)
      refine lv_istore (lv' := [(5, .int r67), (0, .ref am), (1, .int x), (2, .int f), (3, .int ((rIt (F 21 x.toNatClampNeg) f (F 24 x.toNatClampNeg) i) - (F 24 x.toNatClampNeg))), (4, .int (1 : Int32))]) hx hb dX8_flux_70 hl (by decide) rfl (fun ls hl => ?_)
      refine lv_iload hx hb dX8_flux_72 (lv_at hl 0 rfl) ?_
      refine lv_if_le (tgt := 81) hx hb dX8_flux_74 (by decide) (fun c74 => ?_) (fun c74 => ?_)
      · refine lv_iconst (v := 1) hx hb dX8_flux_81 (by decide) ?_
        refine lv_istore (lv' := [(6, .int (1 : Int32)), (5, .int r67), (0, .ref am), (1, .int x), (2, .int f), (3, .int ((rIt (F 21 x.toNatClampNeg) f (F 24 x.toNatClampNeg) i) - (F 24 x.toNatClampNeg))), (4, .int (1 : Int32))]) hx hb dX8_flux_82 hl (by decide) rfl (fun ls hl => ?_)
        refine lv_iload hx hb dX8_flux_84 (lv_at hl 1 rfl) ?_
        refine vp_callSi (va_Run.run (va_runS (As := [.int r67]) (rest := []) ⟨hx, hb, hml, hown, hts⟩ (metX8_size l r67) (va_cwS 1 hts gX8_flux_X8_size rfl rfl rfl (by decide +kernel) ⟨Nat.le_of_ble_eq_true rfl, Nat.le_of_ble_eq_true rfl⟩) ⟨pc0_b, pc0_u⟩ rfl rfl hl.1 rfl (lv_room (Nat.le_of_ble_eq_true rfl)) dX8_flux_86 ⟨Nat.le_of_ble_eq_true rfl, Nat.le_of_ble_eq_true rfl⟩)) (fun r86 h86 => ?_)
        refine lv_aload_n hx hb dX8_flux_89 rfl (lv_at hl 2 rfl) ?_
        refine va_get (D := G) (ci := 9) (v := .ref (ad 22)) (C := RX8) (T := TX8) (N := 39) hx hb hts hiX8 hown hK hP 12 hm rfl 15 (by decide) (hts (.fieldLink RX8 37 "VortexpinModel" "ringCritical" "[I") (List.mem_of_getElem? (i := 7) rfl)) (fun _ h9 => h9) rfl dX8_flux_90 ?_
        refine lv_iload_n hx hb dX8_flux_93 rfl (lv_at hl 3 rfl) ?_
        refine va_iald hx hb hK hP 22 0 hA22 htI (vp_uK (n := 6) (fun q9 => k0 (uK_up q9 h60nR (by decide)))) dX8_flux_94 ?_
        refine lv_icmp_le (tgt := 127) hx hb dX8_flux_95 (by decide) (fun c95 => ?_) (fun c95 => ?_)
        · refine lv_iconst (v := 0) hx hb dX8_flux_127 (by decide) ?_
          refine lv_istore (lv' := [(4, .int (0 : Int32)), (6, .int (1 : Int32)), (5, .int r67), (0, .ref am), (1, .int x), (2, .int f), (3, .int ((rIt (F 21 x.toNatClampNeg) f (F 24 x.toNatClampNeg) i) - (F 24 x.toNatClampNeg)))]) hx hb dX8_flux_128 hl (by decide) rfl (fun ls hl => ?_)
          refine lv_iload hx hb dX8_flux_130 (lv_at hl 0 rfl) ?_
          refine lv_if_eq (tgt := 161) hx hb dX8_flux_132 (by decide) (fun c132 => ?_) (fun c132 => absurd (by decide) c132)
          refine lv_goto (tgt := 54) hx hb dX8_flux_161 (by decide) ?_
          refine lv_iload hx hb dX8_flux_54 (lv_at hl 0 rfl) ?_
          refine lv_if_eq (tgt := 164) hx hb dX8_flux_56 (by decide) (fun c56 => ?_) (fun c56 => absurd (by decide) c56)
          refine lv_iload_n hx hb dX8_flux_164 rfl (lv_at hl 6 rfl) ?_
          have hcd : cdFlux x f (nI nR) = 0 := by unfold cdFlux; rw [if_neg k0, if_neg k1]
          have ew : (((ws.set 12 (am, .inr (9, mF ad (upd z 0 0) wi dm))).set 23 (ad 23, .inl (cI, 6, .inl (upd (F 23) x.toNatClampNeg f)))).set 24 (ad 24, .inl (cI, 6, .inl (upd (F 24) x.toNatClampNeg (rIt (F 21 x.toNatClampNeg) f (F 24 x.toNatClampNeg) i))))).set 25 (ad 25, .inl (cI, 6, .inl (upd (F 25) x.toNatClampNeg (F 25 x.toNatClampNeg + nI i)))) = (if cdFlux x f (nI nR) = 0 then (((ws.set 12 (am, .inr (9, mF ad (upd z 0 0) wi dm))).set 23 (ad 23, .inl (cI, 6, .inl (upd (F 23) x.toNatClampNeg f)))).set 24 (ad 24, .inl (cI, 6, .inl (upd (F 24) x.toNatClampNeg (rIt (F 21 x.toNatClampNeg) f (F 24 x.toNatClampNeg) i))))).set 25 (ad 25, .inl (cI, 6, .inl (upd (F 25) x.toNatClampNeg (F 25 x.toNatClampNeg + nI i)))) else ws.set 12 (am, .inr (9, mF ad (upd z 0 (cdFlux x f (nI nR))) wi dm))) := by rw [hcd, if_pos rfl]; skip
          have hP : va_P G vwCl ((((ws.set 12 (am, .inr (9, mF ad (upd z 0 0) wi dm))).set 23 (ad 23, .inl (cI, 6, .inl (upd (F 23) x.toNatClampNeg f)))).set 24 (ad 24, .inl (cI, 6, .inl (upd (F 24) x.toNatClampNeg (rIt (F 21 x.toNatClampNeg) f (F 24 x.toNatClampNeg) i))))).set 25 (ad 25, .inl (cI, 6, .inl (upd (F 25) x.toNatClampNeg (F 25 x.toNatClampNeg + nI i))))) H := hP
          have hD : va_D A ((((ws.set 12 (am, .inr (9, mF ad (upd z 0 0) wi dm))).set 23 (ad 23, .inl (cI, 6, .inl (upd (F 23) x.toNatClampNeg f)))).set 24 (ad 24, .inl (cI, 6, .inl (upd (F 24) x.toNatClampNeg (rIt (F 21 x.toNatClampNeg) f (F 24 x.toNatClampNeg) i))))).set 25 (ad 25, .inl (cI, 6, .inl (upd (F 25) x.toNatClampNeg (F 25 x.toNatClampNeg + nI i))))) := hD
          rw [ew] at hP hD
          exact W.iret (v := (rIt (F 21 x.toNatClampNeg) f (F 24 x.toNatClampNeg) i) - (F 24 x.toNatClampNeg)) hx hb hr (fun t ht hW => ⟨⟨(rIt (F 21 x.toNatClampNeg) f (F 24 x.toNatClampNeg) i) - (F 24 x.toNatClampNeg), i, rfl, (fun _ => ⟨rfl, Or.inl (by rw [← h67, ← h86]; exact c95), hKi⟩), by show va_P G vwCl _ t.heap ∧ va_D A _; rw [ht]; exact ⟨hP, hD⟩⟩, hS.F ht⟩) hS.2.2 dX8_flux_165
        · refine lv_aload_n hx hb dX8_flux_98 rfl (lv_at hl 2 rfl) ?_
          refine lv_iload_n hx hb dX8_flux_99 rfl (lv_at hl 3 rfl) ?_
          refine lv_aload_n hx hb dX8_flux_100 rfl (lv_at hl 2 rfl) ?_
          refine va_get (D := G) (ci := 9) (v := .ref (ad 24)) (C := RX8) (T := TX8) (N := 39) hx hb hts hiX8 hown hK hP 12 hm rfl 17 (by decide) (hts (.fieldLink RX8 43 "VortexpinModel" "number" "[I") (List.mem_of_getElem? (i := 6) rfl)) (fun _ h9 => h9) rfl dX8_flux_101 ?_
          refine lv_iload_n hx hb dX8_flux_104 rfl (lv_at hl 3 rfl) ?_
          refine va_iald hx hb hK hP 24 0 hA24 htI (vp_uK (n := 6) (fun q9 => k0 (uK_up q9 h60nR (by decide)))) dX8_flux_105 ?_
          refine re_i (y := (rIt (F 21 x.toNatClampNeg) f (F 24 x.toNatClampNeg) i)) (by unfold upd; rw [if_pos rfl]) ?_
          refine lv_iload hx hb dX8_flux_106 (lv_at hl 0 rfl) ?_
          refine lv_iadd hx hb dX8_flux_108 ?_
          refine vp_callSi (va_Run.run (va_runV (As := [.int x, .int ((rIt (F 21 x.toNatClampNeg) f (F 24 x.toNatClampNeg) i) + (1 : Int32))]) (rest := []) ⟨hx, hb, hml, hown, hts⟩ (metX8_currentBy l G tys htI _ (F := updF F 23 (upd (F 23) x.toNatClampNeg f)) hm hA23 hA21 x ((rIt (F 21 x.toNatClampNeg) f (F 24 x.toNatClampNeg) i) + (1 : Int32)) (fun q9 => k0 (uK_up q9 h60nR (by decide))) (hi0 _ (uK_ix k0).2)) (cwV 2 hts gX8_flux_X8_currentBy rfl rfl rfl (by decide +kernel) ⟨Nat.le_of_ble_eq_true rfl, Nat.le_of_ble_eq_true rfl⟩) ⟨pcR_b, va_recv hK hP (ci := 9) (q0 := 12) rfl hm, pcR_u hP hK⟩ rfl rfl hl.1 rfl (lv_room (Nat.le_of_ble_eq_true rfl)) dX8_flux_109 ⟨Nat.le_of_ble_eq_true rfl, Nat.le_of_ble_eq_true rfl⟩)) (fun r109 h109 => ?_)
          have h109 : r109 = rCur (F 21 x.toNatClampNeg) f ((rIt (F 21 x.toNatClampNeg) f (F 24 x.toNatClampNeg) i) + (1 : Int32)) := h109.trans (by show rCur _ (upd (F 23) x.toNatClampNeg f x.toNatClampNeg) _ = _; unfold upd; rw [if_pos rfl]; rfl)
          refine vp_callSi (va_Run.run (va_runS (As := [.int r109]) (rest := []) ⟨hx, hb, hml, hown, hts⟩ (metX8_size l r109) (va_cwS 1 hts gX8_flux_X8_size rfl rfl rfl (by decide +kernel) ⟨Nat.le_of_ble_eq_true rfl, Nat.le_of_ble_eq_true rfl⟩) ⟨pc0_b, pc0_u⟩ rfl rfl hl.1 rfl (lv_room (Nat.le_of_ble_eq_true rfl)) dX8_flux_112 ⟨Nat.le_of_ble_eq_true rfl, Nat.le_of_ble_eq_true rfl⟩)) (fun r112 h112 => ?_)
          refine lv_iload hx hb dX8_flux_115 (lv_at hl 1 rfl) ?_
          refine vp_callSi (va_Run.run (va_runS (As := [.int r67]) (rest := [.int r112]) ⟨hx, hb, hml, hown, hts⟩ (metX8_size l r67) (va_cwS 1 hts gX8_flux_X8_size rfl rfl rfl (by decide +kernel) ⟨Nat.le_of_ble_eq_true rfl, Nat.le_of_ble_eq_true rfl⟩) ⟨pc0_b, pc0_u⟩ rfl rfl hl.1 rfl (lv_room (Nat.le_of_ble_eq_true rfl)) dX8_flux_117 ⟨Nat.le_of_ble_eq_true rfl, Nat.le_of_ble_eq_true rfl⟩)) (fun r117 h117 => ?_)
          refine lv_icmp_ge (tgt := 127) hx hb dX8_flux_120 (by decide) (fun c120 => ?_) (fun c120 => ?_)
          · refine lv_iconst (v := 0) hx hb dX8_flux_127 (by decide) ?_
            refine lv_istore (lv' := [(4, .int (0 : Int32)), (6, .int (1 : Int32)), (5, .int r67), (0, .ref am), (1, .int x), (2, .int f), (3, .int ((rIt (F 21 x.toNatClampNeg) f (F 24 x.toNatClampNeg) i) - (F 24 x.toNatClampNeg)))]) hx hb dX8_flux_128 hl (by decide) rfl (fun ls hl => ?_)
            refine lv_iload hx hb dX8_flux_130 (lv_at hl 0 rfl) ?_
            refine lv_if_eq (tgt := 161) hx hb dX8_flux_132 (by decide) (fun c132 => ?_) (fun c132 => absurd (by decide) c132)
            refine lv_goto (tgt := 54) hx hb dX8_flux_161 (by decide) ?_
            refine lv_iload hx hb dX8_flux_54 (lv_at hl 0 rfl) ?_
            refine lv_if_eq (tgt := 164) hx hb dX8_flux_56 (by decide) (fun c56 => ?_) (fun c56 => absurd (by decide) c56)
            refine lv_iload_n hx hb dX8_flux_164 rfl (lv_at hl 6 rfl) ?_
            have hcd : cdFlux x f (nI nR) = 0 := by unfold cdFlux; rw [if_neg k0, if_neg k1]
            have ew : (((ws.set 12 (am, .inr (9, mF ad (upd z 0 0) wi dm))).set 23 (ad 23, .inl (cI, 6, .inl (upd (F 23) x.toNatClampNeg f)))).set 24 (ad 24, .inl (cI, 6, .inl (upd (F 24) x.toNatClampNeg (rIt (F 21 x.toNatClampNeg) f (F 24 x.toNatClampNeg) i))))).set 25 (ad 25, .inl (cI, 6, .inl (upd (F 25) x.toNatClampNeg (F 25 x.toNatClampNeg + nI i)))) = (if cdFlux x f (nI nR) = 0 then (((ws.set 12 (am, .inr (9, mF ad (upd z 0 0) wi dm))).set 23 (ad 23, .inl (cI, 6, .inl (upd (F 23) x.toNatClampNeg f)))).set 24 (ad 24, .inl (cI, 6, .inl (upd (F 24) x.toNatClampNeg (rIt (F 21 x.toNatClampNeg) f (F 24 x.toNatClampNeg) i))))).set 25 (ad 25, .inl (cI, 6, .inl (upd (F 25) x.toNatClampNeg (F 25 x.toNatClampNeg + nI i)))) else ws.set 12 (am, .inr (9, mF ad (upd z 0 (cdFlux x f (nI nR))) wi dm))) := by rw [hcd, if_pos rfl]; skip
            have hP : va_P G vwCl ((((ws.set 12 (am, .inr (9, mF ad (upd z 0 0) wi dm))).set 23 (ad 23, .inl (cI, 6, .inl (upd (F 23) x.toNatClampNeg f)))).set 24 (ad 24, .inl (cI, 6, .inl (upd (F 24) x.toNatClampNeg (rIt (F 21 x.toNatClampNeg) f (F 24 x.toNatClampNeg) i))))).set 25 (ad 25, .inl (cI, 6, .inl (upd (F 25) x.toNatClampNeg (F 25 x.toNatClampNeg + nI i))))) H := hP
            have hD : va_D A ((((ws.set 12 (am, .inr (9, mF ad (upd z 0 0) wi dm))).set 23 (ad 23, .inl (cI, 6, .inl (upd (F 23) x.toNatClampNeg f)))).set 24 (ad 24, .inl (cI, 6, .inl (upd (F 24) x.toNatClampNeg (rIt (F 21 x.toNatClampNeg) f (F 24 x.toNatClampNeg) i))))).set 25 (ad 25, .inl (cI, 6, .inl (upd (F 25) x.toNatClampNeg (F 25 x.toNatClampNeg + nI i))))) := hD
            rw [ew] at hP hD
            exact W.iret (v := (rIt (F 21 x.toNatClampNeg) f (F 24 x.toNatClampNeg) i) - (F 24 x.toNatClampNeg)) hx hb hr (fun t ht hW => ⟨⟨(rIt (F 21 x.toNatClampNeg) f (F 24 x.toNatClampNeg) i) - (F 24 x.toNatClampNeg), i, rfl, (fun _ => ⟨rfl, Or.inr (by have e1 : (rIt (F 21 x.toNatClampNeg) f (F 24 x.toNatClampNeg) i) + (1 : Int32) = (rBy (F 21 x.toNatClampNeg) f (rIt (F 21 x.toNatClampNeg) f (F 24 x.toNatClampNeg) i)) := rBy_a (by rw [← h67]; exact c74); rw [← e1, ← h109, ← h67, ← h112, ← h117]; exact Int32.not_lt.mpr c120), hKi⟩), by show va_P G vwCl _ t.heap ∧ va_D A _; rw [ht]; exact ⟨hP, hD⟩⟩, hS.F ht⟩) hS.2.2 dX8_flux_165
          · refine lv_iconst (v := 1) hx hb dX8_flux_123 (by decide) ?_
            refine lv_goto (tgt := 128) hx hb dX8_flux_124 (by decide) ?_
            refine lv_istore (lv' := [(4, .int (1 : Int32)), (6, .int (1 : Int32)), (5, .int r67), (0, .ref am), (1, .int x), (2, .int f), (3, .int ((rIt (F 21 x.toNatClampNeg) f (F 24 x.toNatClampNeg) i) - (F 24 x.toNatClampNeg)))]) hx hb dX8_flux_128 hl (by decide) rfl (fun ls hl => ?_)
            refine lv_iload hx hb dX8_flux_130 (lv_at hl 0 rfl) ?_
            refine lv_if_eq (tgt := 161) hx hb dX8_flux_132 (by decide) (fun c132 => absurd c132 (by decide)) (fun c132 => ?_)
            refine lv_aload_n hx hb dX8_flux_135 rfl (lv_at hl 3 rfl) ?_
            refine va_get (D := G) (ci := 9) (v := .ref (ad 24)) (C := RX8) (T := TX8) (N := 39) hx hb hts hiX8 hown hK hP 12 hm rfl 17 (by decide) (hts (.fieldLink RX8 43 "VortexpinModel" "number" "[I") (List.mem_of_getElem? (i := 6) rfl)) (fun _ h9 => h9) rfl dX8_flux_136 ?_
            refine lv_iload_n hx hb dX8_flux_139 rfl (lv_at hl 4 rfl) ?_
            refine lv_dup2_11 hx hb dX8_flux_140 rfl rfl ?_
            refine va_iald hx hb hK hP 24 0 hA24 htI (vp_uK (n := 6) (fun q9 => k0 (uK_up q9 h60nR (by decide)))) dX8_flux_141 ?_
            refine re_i (y := (rIt (F 21 x.toNatClampNeg) f (F 24 x.toNatClampNeg) i)) (by unfold upd; rw [if_pos rfl]) ?_
            refine lv_iload hx hb dX8_flux_142 (lv_at hl 1 rfl) ?_
            refine lv_iadd hx hb dX8_flux_144 ?_
            refine va_iast hx hb hK hP hD hS 24 0 hA24 htI (vp_uK (n := 6) (fun q9 => k0 (uK_up q9 h60nR (by decide)))) dX8_flux_145 (fun H locs hP hD hS => ?_)
            have hm := va_gs (k := 24) (e := (ad 24, .inl (cI, 6, .inl (upd (upd (F 24) x.toNatClampNeg (rIt (F 21 x.toNatClampNeg) f (F 24 x.toNatClampNeg) i)) x.toNatClampNeg ((rIt (F 21 x.toNatClampNeg) f (F 24 x.toNatClampNeg) i) + (1 : Int32)))))) (by decide) hm
            have hA21 := va_gs (k := 24) (e := (ad 24, .inl (cI, 6, .inl (upd (upd (F 24) x.toNatClampNeg (rIt (F 21 x.toNatClampNeg) f (F 24 x.toNatClampNeg) i)) x.toNatClampNeg ((rIt (F 21 x.toNatClampNeg) f (F 24 x.toNatClampNeg) i) + (1 : Int32)))))) (by decide) hA21
            have hA22 := va_gs (k := 24) (e := (ad 24, .inl (cI, 6, .inl (upd (upd (F 24) x.toNatClampNeg (rIt (F 21 x.toNatClampNeg) f (F 24 x.toNatClampNeg) i)) x.toNatClampNeg ((rIt (F 21 x.toNatClampNeg) f (F 24 x.toNatClampNeg) i) + (1 : Int32)))))) (by decide) hA22
            have hA23 := va_gs (k := 24) (e := (ad 24, .inl (cI, 6, .inl (upd (upd (F 24) x.toNatClampNeg (rIt (F 21 x.toNatClampNeg) f (F 24 x.toNatClampNeg) i)) x.toNatClampNeg ((rIt (F 21 x.toNatClampNeg) f (F 24 x.toNatClampNeg) i) + (1 : Int32)))))) (by decide) hA23
            have hA25 := va_gs (k := 24) (e := (ad 24, .inl (cI, 6, .inl (upd (upd (F 24) x.toNatClampNeg (rIt (F 21 x.toNatClampNeg) f (F 24 x.toNatClampNeg) i)) x.toNatClampNeg ((rIt (F 21 x.toNatClampNeg) f (F 24 x.toNatClampNeg) i) + (1 : Int32)))))) (by decide) hA25
            have hA24 := va_ge (e := (ad 24, .inl (cI, 6, .inl (upd (upd (F 24) x.toNatClampNeg (rIt (F 21 x.toNatClampNeg) f (F 24 x.toNatClampNeg) i)) x.toNatClampNeg ((rIt (F 21 x.toNatClampNeg) f (F 24 x.toNatClampNeg) i) + (1 : Int32)))))) hA24
            refine lv_iload_n hx hb dX8_flux_146 rfl (lv_at hl 6 rfl) ?_
            refine lv_iload hx hb dX8_flux_147 (lv_at hl 1 rfl) ?_
            refine lv_iadd hx hb dX8_flux_149 ?_
            refine lv_istore_n (lv' := [(3, .int (((rIt (F 21 x.toNatClampNeg) f (F 24 x.toNatClampNeg) i) - (F 24 x.toNatClampNeg)) + (1 : Int32))), (4, .int (1 : Int32)), (6, .int (1 : Int32)), (5, .int r67), (0, .ref am), (1, .int x), (2, .int f)]) hx hb dX8_flux_150 rfl hl (by decide) rfl (fun ls hl => ?_)
            refine lv_aload_n hx hb dX8_flux_151 rfl (lv_at hl 4 rfl) ?_
            refine va_get (D := G) (ci := 9) (v := .ref (ad 25)) (C := RX8) (T := TX8) (N := 39) hx hb hts hiX8 hown hK hP 12 hm rfl 18 (by decide) (hts (.fieldLink RX8 46 "VortexpinModel" "slips" "[I") (List.mem_of_getElem? (i := 8) rfl)) (fun _ h9 => h9) rfl dX8_flux_152 ?_
            refine lv_iload_n hx hb dX8_flux_155 rfl (lv_at hl 5 rfl) ?_
            refine lv_dup2_11 hx hb dX8_flux_156 rfl rfl ?_
            refine va_iald hx hb hK hP 25 0 hA25 htI (vp_uK (n := 6) (fun q9 => k0 (uK_up q9 h60nR (by decide)))) dX8_flux_157 ?_
            refine re_i (y := F 25 x.toNatClampNeg + nI i) (by unfold upd; rw [if_pos rfl]) ?_
            refine lv_iconst (v := 1) hx hb dX8_flux_158 (by decide) ?_
            refine lv_iadd hx hb dX8_flux_159 ?_
            refine va_iast hx hb hK hP hD hS 25 0 hA25 htI (vp_uK (n := 6) (fun q9 => k0 (uK_up q9 h60nR (by decide)))) dX8_flux_160 (fun H locs hP hD hS => ?_)
            have hm := va_gs (k := 25) (e := (ad 25, .inl (cI, 6, .inl (upd (upd (F 25) x.toNatClampNeg (F 25 x.toNatClampNeg + nI i)) x.toNatClampNeg ((F 25 x.toNatClampNeg + nI i) + (1 : Int32)))))) (by decide) hm
            have hA21 := va_gs (k := 25) (e := (ad 25, .inl (cI, 6, .inl (upd (upd (F 25) x.toNatClampNeg (F 25 x.toNatClampNeg + nI i)) x.toNatClampNeg ((F 25 x.toNatClampNeg + nI i) + (1 : Int32)))))) (by decide) hA21
            have hA22 := va_gs (k := 25) (e := (ad 25, .inl (cI, 6, .inl (upd (upd (F 25) x.toNatClampNeg (F 25 x.toNatClampNeg + nI i)) x.toNatClampNeg ((F 25 x.toNatClampNeg + nI i) + (1 : Int32)))))) (by decide) hA22
            have hA23 := va_gs (k := 25) (e := (ad 25, .inl (cI, 6, .inl (upd (upd (F 25) x.toNatClampNeg (F 25 x.toNatClampNeg + nI i)) x.toNatClampNeg ((F 25 x.toNatClampNeg + nI i) + (1 : Int32)))))) (by decide) hA23
            have hA24 := va_gs (k := 25) (e := (ad 25, .inl (cI, 6, .inl (upd (upd (F 25) x.toNatClampNeg (F 25 x.toNatClampNeg + nI i)) x.toNatClampNeg ((F 25 x.toNatClampNeg + nI i) + (1 : Int32)))))) (by decide) hA24
            have hA25 := va_ge (e := (ad 25, .inl (cI, 6, .inl (upd (upd (F 25) x.toNatClampNeg (F 25 x.toNatClampNeg + nI i)) x.toNatClampNeg ((F 25 x.toNatClampNeg + nI i) + (1 : Int32)))))) hA25
            refine lv_goto (tgt := 54) hx hb dX8_flux_161 (by decide) ?_
            have e1 : (rIt (F 21 x.toNatClampNeg) f (F 24 x.toNatClampNeg) i) + (1 : Int32) = (rBy (F 21 x.toNatClampNeg) f (rIt (F 21 x.toNatClampNeg) f (F 24 x.toNatClampNeg) i)) := rBy_a (by rw [← h67]; exact c74)
            have hgo : ¬ (rStop (F 21 x.toNatClampNeg) (F 22 x.toNatClampNeg) f (rIt (F 21 x.toNatClampNeg) f (F 24 x.toNatClampNeg) i)) := fun q9 => q9.elim (fun y9 => c95 (by rw [h86, h67]; exact y9)) (fun y9 => y9 (by rw [← e1, ← h109, ← h67, ← h112, ← h117]; exact Int32.not_le.mp c120))
            have hlti : i < jT := Nat.lt_of_le_of_ne hNi (fun q9 => hgo (by rw [q9]; exact hjs))
            have e2 : (rIt (F 21 x.toNatClampNeg) f (F 24 x.toNatClampNeg) (i + 1)) = (rBy (F 21 x.toNatClampNeg) f (rIt (F 21 x.toNatClampNeg) f (F 24 x.toNatClampNeg) i)) := rfl
            have ea3 : ((rIt (F 21 x.toNatClampNeg) f (F 24 x.toNatClampNeg) i) - (F 24 x.toNatClampNeg)) + (1 : Int32) = (rIt (F 21 x.toNatClampNeg) f (F 24 x.toNatClampNeg) (i + 1)) - (F 24 x.toNatClampNeg) := by rw [e2, ← e1, i32_4]
            rw [ea3] at hl
            have ew : (((((ws.set 12 (am, .inr (9, mF ad (upd z 0 0) wi dm))).set 23 (ad 23, .inl (cI, 6, .inl (upd (F 23) x.toNatClampNeg f)))).set 24 (ad 24, .inl (cI, 6, .inl (upd (F 24) x.toNatClampNeg (rIt (F 21 x.toNatClampNeg) f (F 24 x.toNatClampNeg) i))))).set 25 (ad 25, .inl (cI, 6, .inl (upd (F 25) x.toNatClampNeg (F 25 x.toNatClampNeg + nI i))))).set 24 (ad 24, .inl (cI, 6, .inl (upd (upd (F 24) x.toNatClampNeg (rIt (F 21 x.toNatClampNeg) f (F 24 x.toNatClampNeg) i)) x.toNatClampNeg ((rIt (F 21 x.toNatClampNeg) f (F 24 x.toNatClampNeg) i) + (1 : Int32)))))).set 25 (ad 25, .inl (cI, 6, .inl (upd (upd (F 25) x.toNatClampNeg (F 25 x.toNatClampNeg + nI i)) x.toNatClampNeg ((F 25 x.toNatClampNeg + nI i) + (1 : Int32))))) = (((ws.set 12 (am, .inr (9, mF ad (upd z 0 0) wi dm))).set 23 (ad 23, .inl (cI, 6, .inl (upd (F 23) x.toNatClampNeg f)))).set 24 (ad 24, .inl (cI, 6, .inl (upd (F 24) x.toNatClampNeg (rIt (F 21 x.toNatClampNeg) f (F 24 x.toNatClampNeg) (i + 1)))))).set 25 (ad 25, .inl (cI, 6, .inl (upd (F 25) x.toNatClampNeg (F 25 x.toNatClampNeg + nI (i + 1))))) := by rw [e2, ← e1, ← nI_1, ← Int32.add_assoc, set_abab (by decide), upd_upd, upd_upd]
            have hP : va_P G vwCl ((((((ws.set 12 (am, .inr (9, mF ad (upd z 0 0) wi dm))).set 23 (ad 23, .inl (cI, 6, .inl (upd (F 23) x.toNatClampNeg f)))).set 24 (ad 24, .inl (cI, 6, .inl (upd (F 24) x.toNatClampNeg (rIt (F 21 x.toNatClampNeg) f (F 24 x.toNatClampNeg) i))))).set 25 (ad 25, .inl (cI, 6, .inl (upd (F 25) x.toNatClampNeg (F 25 x.toNatClampNeg + nI i))))).set 24 (ad 24, .inl (cI, 6, .inl (upd (upd (F 24) x.toNatClampNeg (rIt (F 21 x.toNatClampNeg) f (F 24 x.toNatClampNeg) i)) x.toNatClampNeg ((rIt (F 21 x.toNatClampNeg) f (F 24 x.toNatClampNeg) i) + (1 : Int32)))))).set 25 (ad 25, .inl (cI, 6, .inl (upd (upd (F 25) x.toNatClampNeg (F 25 x.toNatClampNeg + nI i)) x.toNatClampNeg ((F 25 x.toNatClampNeg + nI i) + (1 : Int32)))))) H := hP
            have hD : va_D A ((((((ws.set 12 (am, .inr (9, mF ad (upd z 0 0) wi dm))).set 23 (ad 23, .inl (cI, 6, .inl (upd (F 23) x.toNatClampNeg f)))).set 24 (ad 24, .inl (cI, 6, .inl (upd (F 24) x.toNatClampNeg (rIt (F 21 x.toNatClampNeg) f (F 24 x.toNatClampNeg) i))))).set 25 (ad 25, .inl (cI, 6, .inl (upd (F 25) x.toNatClampNeg (F 25 x.toNatClampNeg + nI i))))).set 24 (ad 24, .inl (cI, 6, .inl (upd (upd (F 24) x.toNatClampNeg (rIt (F 21 x.toNatClampNeg) f (F 24 x.toNatClampNeg) i)) x.toNatClampNeg ((rIt (F 21 x.toNatClampNeg) f (F 24 x.toNatClampNeg) i) + (1 : Int32)))))).set 25 (ad 25, .inl (cI, 6, .inl (upd (upd (F 25) x.toNatClampNeg (F 25 x.toNatClampNeg + nI i)) x.toNatClampNeg ((F 25 x.toNatClampNeg + nI i) + (1 : Int32)))))) := hD
            rw [ew] at hP hD
            exact ihi H _ ls hlti (fun j hj => (Nat.lt_or_ge j i).elim (fun q9 => hKi j q9) (fun q9 => by have h9 : j = i := (by omega); rw [h9]; exact hgo)) hP hD hS (lv_sub hl [4, 5, 6, 0, 1] rfl)
      · refine lv_iconst (v := -1) hx hb dX8_flux_77 (by decide) ?_
        refine lv_goto (tgt := 82) hx hb dX8_flux_78 (by decide) ?_
        refine lv_istore (lv' := [(6, .int (-1 : Int32)), (5, .int r67), (0, .ref am), (1, .int x), (2, .int f), (3, .int ((rIt (F 21 x.toNatClampNeg) f (F 24 x.toNatClampNeg) i) - (F 24 x.toNatClampNeg))), (4, .int (1 : Int32))]) hx hb dX8_flux_82 hl (by decide) rfl (fun ls hl => ?_)
        refine lv_iload hx hb dX8_flux_84 (lv_at hl 1 rfl) ?_
        refine vp_callSi (va_Run.run (va_runS (As := [.int r67]) (rest := []) ⟨hx, hb, hml, hown, hts⟩ (metX8_size l r67) (va_cwS 1 hts gX8_flux_X8_size rfl rfl rfl (by decide +kernel) ⟨Nat.le_of_ble_eq_true rfl, Nat.le_of_ble_eq_true rfl⟩) ⟨pc0_b, pc0_u⟩ rfl rfl hl.1 rfl (lv_room (Nat.le_of_ble_eq_true rfl)) dX8_flux_86 ⟨Nat.le_of_ble_eq_true rfl, Nat.le_of_ble_eq_true rfl⟩)) (fun r86 h86 => ?_)
        refine lv_aload_n hx hb dX8_flux_89 rfl (lv_at hl 2 rfl) ?_
        refine va_get (D := G) (ci := 9) (v := .ref (ad 22)) (C := RX8) (T := TX8) (N := 39) hx hb hts hiX8 hown hK hP 12 hm rfl 15 (by decide) (hts (.fieldLink RX8 37 "VortexpinModel" "ringCritical" "[I") (List.mem_of_getElem? (i := 7) rfl)) (fun _ h9 => h9) rfl dX8_flux_90 ?_
        refine lv_iload_n hx hb dX8_flux_93 rfl (lv_at hl 3 rfl) ?_
        refine va_iald hx hb hK hP 22 0 hA22 htI (vp_uK (n := 6) (fun q9 => k0 (uK_up q9 h60nR (by decide)))) dX8_flux_94 ?_
        refine lv_icmp_le (tgt := 127) hx hb dX8_flux_95 (by decide) (fun c95 => ?_) (fun c95 => ?_)
        · refine lv_iconst (v := 0) hx hb dX8_flux_127 (by decide) ?_
          refine lv_istore (lv' := [(4, .int (0 : Int32)), (6, .int (-1 : Int32)), (5, .int r67), (0, .ref am), (1, .int x), (2, .int f), (3, .int ((rIt (F 21 x.toNatClampNeg) f (F 24 x.toNatClampNeg) i) - (F 24 x.toNatClampNeg)))]) hx hb dX8_flux_128 hl (by decide) rfl (fun ls hl => ?_)
          refine lv_iload hx hb dX8_flux_130 (lv_at hl 0 rfl) ?_
          refine lv_if_eq (tgt := 161) hx hb dX8_flux_132 (by decide) (fun c132 => ?_) (fun c132 => absurd (by decide) c132)
          refine lv_goto (tgt := 54) hx hb dX8_flux_161 (by decide) ?_
          refine lv_iload hx hb dX8_flux_54 (lv_at hl 0 rfl) ?_
          refine lv_if_eq (tgt := 164) hx hb dX8_flux_56 (by decide) (fun c56 => ?_) (fun c56 => absurd (by decide) c56)
          refine lv_iload_n hx hb dX8_flux_164 rfl (lv_at hl 6 rfl) ?_
          have hcd : cdFlux x f (nI nR) = 0 := by unfold cdFlux; rw [if_neg k0, if_neg k1]
          have ew : (((ws.set 12 (am, .inr (9, mF ad (upd z 0 0) wi dm))).set 23 (ad 23, .inl (cI, 6, .inl (upd (F 23) x.toNatClampNeg f)))).set 24 (ad 24, .inl (cI, 6, .inl (upd (F 24) x.toNatClampNeg (rIt (F 21 x.toNatClampNeg) f (F 24 x.toNatClampNeg) i))))).set 25 (ad 25, .inl (cI, 6, .inl (upd (F 25) x.toNatClampNeg (F 25 x.toNatClampNeg + nI i)))) = (if cdFlux x f (nI nR) = 0 then (((ws.set 12 (am, .inr (9, mF ad (upd z 0 0) wi dm))).set 23 (ad 23, .inl (cI, 6, .inl (upd (F 23) x.toNatClampNeg f)))).set 24 (ad 24, .inl (cI, 6, .inl (upd (F 24) x.toNatClampNeg (rIt (F 21 x.toNatClampNeg) f (F 24 x.toNatClampNeg) i))))).set 25 (ad 25, .inl (cI, 6, .inl (upd (F 25) x.toNatClampNeg (F 25 x.toNatClampNeg + nI i)))) else ws.set 12 (am, .inr (9, mF ad (upd z 0 (cdFlux x f (nI nR))) wi dm))) := by rw [hcd, if_pos rfl]; skip
          have hP : va_P G vwCl ((((ws.set 12 (am, .inr (9, mF ad (upd z 0 0) wi dm))).set 23 (ad 23, .inl (cI, 6, .inl (upd (F 23) x.toNatClampNeg f)))).set 24 (ad 24, .inl (cI, 6, .inl (upd (F 24) x.toNatClampNeg (rIt (F 21 x.toNatClampNeg) f (F 24 x.toNatClampNeg) i))))).set 25 (ad 25, .inl (cI, 6, .inl (upd (F 25) x.toNatClampNeg (F 25 x.toNatClampNeg + nI i))))) H := hP
          have hD : va_D A ((((ws.set 12 (am, .inr (9, mF ad (upd z 0 0) wi dm))).set 23 (ad 23, .inl (cI, 6, .inl (upd (F 23) x.toNatClampNeg f)))).set 24 (ad 24, .inl (cI, 6, .inl (upd (F 24) x.toNatClampNeg (rIt (F 21 x.toNatClampNeg) f (F 24 x.toNatClampNeg) i))))).set 25 (ad 25, .inl (cI, 6, .inl (upd (F 25) x.toNatClampNeg (F 25 x.toNatClampNeg + nI i))))) := hD
          rw [ew] at hP hD
          exact W.iret (v := (rIt (F 21 x.toNatClampNeg) f (F 24 x.toNatClampNeg) i) - (F 24 x.toNatClampNeg)) hx hb hr (fun t ht hW => ⟨⟨(rIt (F 21 x.toNatClampNeg) f (F 24 x.toNatClampNeg) i) - (F 24 x.toNatClampNeg), i, rfl, (fun _ => ⟨rfl, Or.inl (by rw [← h67, ← h86]; exact c95), hKi⟩), by show va_P G vwCl _ t.heap ∧ va_D A _; rw [ht]; exact ⟨hP, hD⟩⟩, hS.F ht⟩) hS.2.2 dX8_flux_165
        · refine lv_aload_n hx hb dX8_flux_98 rfl (lv_at hl 2 rfl) ?_
          refine lv_iload_n hx hb dX8_flux_99 rfl (lv_at hl 3 rfl) ?_
          refine lv_aload_n hx hb dX8_flux_100 rfl (lv_at hl 2 rfl) ?_
          refine va_get (D := G) (ci := 9) (v := .ref (ad 24)) (C := RX8) (T := TX8) (N := 39) hx hb hts hiX8 hown hK hP 12 hm rfl 17 (by decide) (hts (.fieldLink RX8 43 "VortexpinModel" "number" "[I") (List.mem_of_getElem? (i := 6) rfl)) (fun _ h9 => h9) rfl dX8_flux_101 ?_
          refine lv_iload_n hx hb dX8_flux_104 rfl (lv_at hl 3 rfl) ?_
          refine va_iald hx hb hK hP 24 0 hA24 htI (vp_uK (n := 6) (fun q9 => k0 (uK_up q9 h60nR (by decide)))) dX8_flux_105 ?_
          refine re_i (y := (rIt (F 21 x.toNatClampNeg) f (F 24 x.toNatClampNeg) i)) (by unfold upd; rw [if_pos rfl]) ?_
          refine lv_iload hx hb dX8_flux_106 (lv_at hl 0 rfl) ?_
          refine lv_iadd hx hb dX8_flux_108 ?_
          refine vp_callSi (va_Run.run (va_runV (As := [.int x, .int ((rIt (F 21 x.toNatClampNeg) f (F 24 x.toNatClampNeg) i) + (-1 : Int32))]) (rest := []) ⟨hx, hb, hml, hown, hts⟩ (metX8_currentBy l G tys htI _ (F := updF F 23 (upd (F 23) x.toNatClampNeg f)) hm hA23 hA21 x ((rIt (F 21 x.toNatClampNeg) f (F 24 x.toNatClampNeg) i) + (-1 : Int32)) (fun q9 => k0 (uK_up q9 h60nR (by decide))) (hi0 _ (uK_ix k0).2)) (cwV 2 hts gX8_flux_X8_currentBy rfl rfl rfl (by decide +kernel) ⟨Nat.le_of_ble_eq_true rfl, Nat.le_of_ble_eq_true rfl⟩) ⟨pcR_b, va_recv hK hP (ci := 9) (q0 := 12) rfl hm, pcR_u hP hK⟩ rfl rfl hl.1 rfl (lv_room (Nat.le_of_ble_eq_true rfl)) dX8_flux_109 ⟨Nat.le_of_ble_eq_true rfl, Nat.le_of_ble_eq_true rfl⟩)) (fun r109 h109 => ?_)
          have h109 : r109 = rCur (F 21 x.toNatClampNeg) f ((rIt (F 21 x.toNatClampNeg) f (F 24 x.toNatClampNeg) i) + (-1 : Int32)) := h109.trans (by show rCur _ (upd (F 23) x.toNatClampNeg f x.toNatClampNeg) _ = _; unfold upd; rw [if_pos rfl]; rfl)
          refine vp_callSi (va_Run.run (va_runS (As := [.int r109]) (rest := []) ⟨hx, hb, hml, hown, hts⟩ (metX8_size l r109) (va_cwS 1 hts gX8_flux_X8_size rfl rfl rfl (by decide +kernel) ⟨Nat.le_of_ble_eq_true rfl, Nat.le_of_ble_eq_true rfl⟩) ⟨pc0_b, pc0_u⟩ rfl rfl hl.1 rfl (lv_room (Nat.le_of_ble_eq_true rfl)) dX8_flux_112 ⟨Nat.le_of_ble_eq_true rfl, Nat.le_of_ble_eq_true rfl⟩)) (fun r112 h112 => ?_)
          refine lv_iload hx hb dX8_flux_115 (lv_at hl 1 rfl) ?_
          refine vp_callSi (va_Run.run (va_runS (As := [.int r67]) (rest := [.int r112]) ⟨hx, hb, hml, hown, hts⟩ (metX8_size l r67) (va_cwS 1 hts gX8_flux_X8_size rfl rfl rfl (by decide +kernel) ⟨Nat.le_of_ble_eq_true rfl, Nat.le_of_ble_eq_true rfl⟩) ⟨pc0_b, pc0_u⟩ rfl rfl hl.1 rfl (lv_room (Nat.le_of_ble_eq_true rfl)) dX8_flux_117 ⟨Nat.le_of_ble_eq_true rfl, Nat.le_of_ble_eq_true rfl⟩)) (fun r117 h117 => ?_)
          refine lv_icmp_ge (tgt := 127) hx hb dX8_flux_120 (by decide) (fun c120 => ?_) (fun c120 => ?_)
          · refine lv_iconst (v := 0) hx hb dX8_flux_127 (by decide) ?_
            refine lv_istore (lv' := [(4, .int (0 : Int32)), (6, .int (-1 : Int32)), (5, .int r67), (0, .ref am), (1, .int x), (2, .int f), (3, .int ((rIt (F 21 x.toNatClampNeg) f (F 24 x.toNatClampNeg) i) - (F 24 x.toNatClampNeg)))]) hx hb dX8_flux_128 hl (by decide) rfl (fun ls hl => ?_)
            refine lv_iload hx hb dX8_flux_130 (lv_at hl 0 rfl) ?_
            refine lv_if_eq (tgt := 161) hx hb dX8_flux_132 (by decide) (fun c132 => ?_) (fun c132 => absurd (by decide) c132)
            refine lv_goto (tgt := 54) hx hb dX8_flux_161 (by decide) ?_
            refine lv_iload hx hb dX8_flux_54 (lv_at hl 0 rfl) ?_
            refine lv_if_eq (tgt := 164) hx hb dX8_flux_56 (by decide) (fun c56 => ?_) (fun c56 => absurd (by decide) c56)
            refine lv_iload_n hx hb dX8_flux_164 rfl (lv_at hl 6 rfl) ?_
            have hcd : cdFlux x f (nI nR) = 0 := by unfold cdFlux; rw [if_neg k0, if_neg k1]
            have ew : (((ws.set 12 (am, .inr (9, mF ad (upd z 0 0) wi dm))).set 23 (ad 23, .inl (cI, 6, .inl (upd (F 23) x.toNatClampNeg f)))).set 24 (ad 24, .inl (cI, 6, .inl (upd (F 24) x.toNatClampNeg (rIt (F 21 x.toNatClampNeg) f (F 24 x.toNatClampNeg) i))))).set 25 (ad 25, .inl (cI, 6, .inl (upd (F 25) x.toNatClampNeg (F 25 x.toNatClampNeg + nI i)))) = (if cdFlux x f (nI nR) = 0 then (((ws.set 12 (am, .inr (9, mF ad (upd z 0 0) wi dm))).set 23 (ad 23, .inl (cI, 6, .inl (upd (F 23) x.toNatClampNeg f)))).set 24 (ad 24, .inl (cI, 6, .inl (upd (F 24) x.toNatClampNeg (rIt (F 21 x.toNatClampNeg) f (F 24 x.toNatClampNeg) i))))).set 25 (ad 25, .inl (cI, 6, .inl (upd (F 25) x.toNatClampNeg (F 25 x.toNatClampNeg + nI i)))) else ws.set 12 (am, .inr (9, mF ad (upd z 0 (cdFlux x f (nI nR))) wi dm))) := by rw [hcd, if_pos rfl]; skip
            have hP : va_P G vwCl ((((ws.set 12 (am, .inr (9, mF ad (upd z 0 0) wi dm))).set 23 (ad 23, .inl (cI, 6, .inl (upd (F 23) x.toNatClampNeg f)))).set 24 (ad 24, .inl (cI, 6, .inl (upd (F 24) x.toNatClampNeg (rIt (F 21 x.toNatClampNeg) f (F 24 x.toNatClampNeg) i))))).set 25 (ad 25, .inl (cI, 6, .inl (upd (F 25) x.toNatClampNeg (F 25 x.toNatClampNeg + nI i))))) H := hP
            have hD : va_D A ((((ws.set 12 (am, .inr (9, mF ad (upd z 0 0) wi dm))).set 23 (ad 23, .inl (cI, 6, .inl (upd (F 23) x.toNatClampNeg f)))).set 24 (ad 24, .inl (cI, 6, .inl (upd (F 24) x.toNatClampNeg (rIt (F 21 x.toNatClampNeg) f (F 24 x.toNatClampNeg) i))))).set 25 (ad 25, .inl (cI, 6, .inl (upd (F 25) x.toNatClampNeg (F 25 x.toNatClampNeg + nI i))))) := hD
            rw [ew] at hP hD
            exact W.iret (v := (rIt (F 21 x.toNatClampNeg) f (F 24 x.toNatClampNeg) i) - (F 24 x.toNatClampNeg)) hx hb hr (fun t ht hW => ⟨⟨(rIt (F 21 x.toNatClampNeg) f (F 24 x.toNatClampNeg) i) - (F 24 x.toNatClampNeg), i, rfl, (fun _ => ⟨rfl, Or.inr (by have e1 : (rIt (F 21 x.toNatClampNeg) f (F 24 x.toNatClampNeg) i) + (-1 : Int32) = (rBy (F 21 x.toNatClampNeg) f (rIt (F 21 x.toNatClampNeg) f (F 24 x.toNatClampNeg) i)) := rBy_b (by rw [← h67]; exact c74); rw [← e1, ← h109, ← h67, ← h112, ← h117]; exact Int32.not_lt.mpr c120), hKi⟩), by show va_P G vwCl _ t.heap ∧ va_D A _; rw [ht]; exact ⟨hP, hD⟩⟩, hS.F ht⟩) hS.2.2 dX8_flux_165
          · refine lv_iconst (v := 1) hx hb dX8_flux_123 (by decide) ?_
            refine lv_goto (tgt := 128) hx hb dX8_flux_124 (by decide) ?_
            refine lv_istore (lv' := [(4, .int (1 : Int32)), (6, .int (-1 : Int32)), (5, .int r67), (0, .ref am), (1, .int x), (2, .int f), (3, .int ((rIt (F 21 x.toNatClampNeg) f (F 24 x.toNatClampNeg) i) - (F 24 x.toNatClampNeg)))]) hx hb dX8_flux_128 hl (by decide) rfl (fun ls hl => ?_)
            refine lv_iload hx hb dX8_flux_130 (lv_at hl 0 rfl) ?_
            refine lv_if_eq (tgt := 161) hx hb dX8_flux_132 (by decide) (fun c132 => absurd c132 (by decide)) (fun c132 => ?_)
            refine lv_aload_n hx hb dX8_flux_135 rfl (lv_at hl 3 rfl) ?_
            refine va_get (D := G) (ci := 9) (v := .ref (ad 24)) (C := RX8) (T := TX8) (N := 39) hx hb hts hiX8 hown hK hP 12 hm rfl 17 (by decide) (hts (.fieldLink RX8 43 "VortexpinModel" "number" "[I") (List.mem_of_getElem? (i := 6) rfl)) (fun _ h9 => h9) rfl dX8_flux_136 ?_
            refine lv_iload_n hx hb dX8_flux_139 rfl (lv_at hl 4 rfl) ?_
            refine lv_dup2_11 hx hb dX8_flux_140 rfl rfl ?_
            refine va_iald hx hb hK hP 24 0 hA24 htI (vp_uK (n := 6) (fun q9 => k0 (uK_up q9 h60nR (by decide)))) dX8_flux_141 ?_
            refine re_i (y := (rIt (F 21 x.toNatClampNeg) f (F 24 x.toNatClampNeg) i)) (by unfold upd; rw [if_pos rfl]) ?_
            refine lv_iload hx hb dX8_flux_142 (lv_at hl 1 rfl) ?_
            refine lv_iadd hx hb dX8_flux_144 ?_
            refine va_iast hx hb hK hP hD hS 24 0 hA24 htI (vp_uK (n := 6) (fun q9 => k0 (uK_up q9 h60nR (by decide)))) dX8_flux_145 (fun H locs hP hD hS => ?_)
            have hm := va_gs (k := 24) (e := (ad 24, .inl (cI, 6, .inl (upd (upd (F 24) x.toNatClampNeg (rIt (F 21 x.toNatClampNeg) f (F 24 x.toNatClampNeg) i)) x.toNatClampNeg ((rIt (F 21 x.toNatClampNeg) f (F 24 x.toNatClampNeg) i) + (-1 : Int32)))))) (by decide) hm
            have hA21 := va_gs (k := 24) (e := (ad 24, .inl (cI, 6, .inl (upd (upd (F 24) x.toNatClampNeg (rIt (F 21 x.toNatClampNeg) f (F 24 x.toNatClampNeg) i)) x.toNatClampNeg ((rIt (F 21 x.toNatClampNeg) f (F 24 x.toNatClampNeg) i) + (-1 : Int32)))))) (by decide) hA21
            have hA22 := va_gs (k := 24) (e := (ad 24, .inl (cI, 6, .inl (upd (upd (F 24) x.toNatClampNeg (rIt (F 21 x.toNatClampNeg) f (F 24 x.toNatClampNeg) i)) x.toNatClampNeg ((rIt (F 21 x.toNatClampNeg) f (F 24 x.toNatClampNeg) i) + (-1 : Int32)))))) (by decide) hA22
            have hA23 := va_gs (k := 24) (e := (ad 24, .inl (cI, 6, .inl (upd (upd (F 24) x.toNatClampNeg (rIt (F 21 x.toNatClampNeg) f (F 24 x.toNatClampNeg) i)) x.toNatClampNeg ((rIt (F 21 x.toNatClampNeg) f (F 24 x.toNatClampNeg) i) + (-1 : Int32)))))) (by decide) hA23
            have hA25 := va_gs (k := 24) (e := (ad 24, .inl (cI, 6, .inl (upd (upd (F 24) x.toNatClampNeg (rIt (F 21 x.toNatClampNeg) f (F 24 x.toNatClampNeg) i)) x.toNatClampNeg ((rIt (F 21 x.toNatClampNeg) f (F 24 x.toNatClampNeg) i) + (-1 : Int32)))))) (by decide) hA25
            have hA24 := va_ge (e := (ad 24, .inl (cI, 6, .inl (upd (upd (F 24) x.toNatClampNeg (rIt (F 21 x.toNatClampNeg) f (F 24 x.toNatClampNeg) i)) x.toNatClampNeg ((rIt (F 21 x.toNatClampNeg) f (F 24 x.toNatClampNeg) i) + (-1 : Int32)))))) hA24
            refine lv_iload_n hx hb dX8_flux_146 rfl (lv_at hl 6 rfl) ?_
            refine lv_iload hx hb dX8_flux_147 (lv_at hl 1 rfl) ?_
            refine lv_iadd hx hb dX8_flux_149 ?_
            refine lv_istore_n (lv' := [(3, .int (((rIt (F 21 x.toNatClampNeg) f (F 24 x.toNatClampNeg) i) - (F 24 x.toNatClampNeg)) + (-1 : Int32))), (4, .int (1 : Int32)), (6, .int (-1 : Int32)), (5, .int r67), (0, .ref am), (1, .int x), (2, .int f)]) hx hb dX8_flux_150 rfl hl (by decide) rfl (fun ls hl => ?_)
            refine lv_aload_n hx hb dX8_flux_151 rfl (lv_at hl 4 rfl) ?_
            refine va_get (D := G) (ci := 9) (v := .ref (ad 25)) (C := RX8) (T := TX8) (N := 39) hx hb hts hiX8 hown hK hP 12 hm rfl 18 (by decide) (hts (.fieldLink RX8 46 "VortexpinModel" "slips" "[I") (List.mem_of_getElem? (i := 8) rfl)) (fun _ h9 => h9) rfl dX8_flux_152 ?_
            refine lv_iload_n hx hb dX8_flux_155 rfl (lv_at hl 5 rfl) ?_
            refine lv_dup2_11 hx hb dX8_flux_156 rfl rfl ?_
            refine va_iald hx hb hK hP 25 0 hA25 htI (vp_uK (n := 6) (fun q9 => k0 (uK_up q9 h60nR (by decide)))) dX8_flux_157 ?_
            refine re_i (y := F 25 x.toNatClampNeg + nI i) (by unfold upd; rw [if_pos rfl]) ?_
            refine lv_iconst (v := 1) hx hb dX8_flux_158 (by decide) ?_
            refine lv_iadd hx hb dX8_flux_159 ?_
            refine va_iast hx hb hK hP hD hS 25 0 hA25 htI (vp_uK (n := 6) (fun q9 => k0 (uK_up q9 h60nR (by decide)))) dX8_flux_160 (fun H locs hP hD hS => ?_)
            have hm := va_gs (k := 25) (e := (ad 25, .inl (cI, 6, .inl (upd (upd (F 25) x.toNatClampNeg (F 25 x.toNatClampNeg + nI i)) x.toNatClampNeg ((F 25 x.toNatClampNeg + nI i) + (1 : Int32)))))) (by decide) hm
            have hA21 := va_gs (k := 25) (e := (ad 25, .inl (cI, 6, .inl (upd (upd (F 25) x.toNatClampNeg (F 25 x.toNatClampNeg + nI i)) x.toNatClampNeg ((F 25 x.toNatClampNeg + nI i) + (1 : Int32)))))) (by decide) hA21
            have hA22 := va_gs (k := 25) (e := (ad 25, .inl (cI, 6, .inl (upd (upd (F 25) x.toNatClampNeg (F 25 x.toNatClampNeg + nI i)) x.toNatClampNeg ((F 25 x.toNatClampNeg + nI i) + (1 : Int32)))))) (by decide) hA22
            have hA23 := va_gs (k := 25) (e := (ad 25, .inl (cI, 6, .inl (upd (upd (F 25) x.toNatClampNeg (F 25 x.toNatClampNeg + nI i)) x.toNatClampNeg ((F 25 x.toNatClampNeg + nI i) + (1 : Int32)))))) (by decide) hA23
            have hA24 := va_gs (k := 25) (e := (ad 25, .inl (cI, 6, .inl (upd (upd (F 25) x.toNatClampNeg (F 25 x.toNatClampNeg + nI i)) x.toNatClampNeg ((F 25 x.toNatClampNeg + nI i) + (1 : Int32)))))) (by decide) hA24
            have hA25 := va_ge (e := (ad 25, .inl (cI, 6, .inl (upd (upd (F 25) x.toNatClampNeg (F 25 x.toNatClampNeg + nI i)) x.toNatClampNeg ((F 25 x.toNatClampNeg + nI i) + (1 : Int32)))))) hA25
            refine lv_goto (tgt := 54) hx hb dX8_flux_161 (by decide) ?_
            have e1 : (rIt (F 21 x.toNatClampNeg) f (F 24 x.toNatClampNeg) i) + (-1 : Int32) = (rBy (F 21 x.toNatClampNeg) f (rIt (F 21 x.toNatClampNeg) f (F 24 x.toNatClampNeg) i)) := rBy_b (by rw [← h67]; exact c74)
            have hgo : ¬ (rStop (F 21 x.toNatClampNeg) (F 22 x.toNatClampNeg) f (rIt (F 21 x.toNatClampNeg) f (F 24 x.toNatClampNeg) i)) := fun q9 => q9.elim (fun y9 => c95 (by rw [h86, h67]; exact y9)) (fun y9 => y9 (by rw [← e1, ← h109, ← h67, ← h112, ← h117]; exact Int32.not_le.mp c120))
            have hlti : i < jT := Nat.lt_of_le_of_ne hNi (fun q9 => hgo (by rw [q9]; exact hjs))
            have e2 : (rIt (F 21 x.toNatClampNeg) f (F 24 x.toNatClampNeg) (i + 1)) = (rBy (F 21 x.toNatClampNeg) f (rIt (F 21 x.toNatClampNeg) f (F 24 x.toNatClampNeg) i)) := rfl
            have ea3 : ((rIt (F 21 x.toNatClampNeg) f (F 24 x.toNatClampNeg) i) - (F 24 x.toNatClampNeg)) + (-1 : Int32) = (rIt (F 21 x.toNatClampNeg) f (F 24 x.toNatClampNeg) (i + 1)) - (F 24 x.toNatClampNeg) := by rw [e2, ← e1, i32_4]
            rw [ea3] at hl
            have ew : (((((ws.set 12 (am, .inr (9, mF ad (upd z 0 0) wi dm))).set 23 (ad 23, .inl (cI, 6, .inl (upd (F 23) x.toNatClampNeg f)))).set 24 (ad 24, .inl (cI, 6, .inl (upd (F 24) x.toNatClampNeg (rIt (F 21 x.toNatClampNeg) f (F 24 x.toNatClampNeg) i))))).set 25 (ad 25, .inl (cI, 6, .inl (upd (F 25) x.toNatClampNeg (F 25 x.toNatClampNeg + nI i))))).set 24 (ad 24, .inl (cI, 6, .inl (upd (upd (F 24) x.toNatClampNeg (rIt (F 21 x.toNatClampNeg) f (F 24 x.toNatClampNeg) i)) x.toNatClampNeg ((rIt (F 21 x.toNatClampNeg) f (F 24 x.toNatClampNeg) i) + (-1 : Int32)))))).set 25 (ad 25, .inl (cI, 6, .inl (upd (upd (F 25) x.toNatClampNeg (F 25 x.toNatClampNeg + nI i)) x.toNatClampNeg ((F 25 x.toNatClampNeg + nI i) + (1 : Int32))))) = (((ws.set 12 (am, .inr (9, mF ad (upd z 0 0) wi dm))).set 23 (ad 23, .inl (cI, 6, .inl (upd (F 23) x.toNatClampNeg f)))).set 24 (ad 24, .inl (cI, 6, .inl (upd (F 24) x.toNatClampNeg (rIt (F 21 x.toNatClampNeg) f (F 24 x.toNatClampNeg) (i + 1)))))).set 25 (ad 25, .inl (cI, 6, .inl (upd (F 25) x.toNatClampNeg (F 25 x.toNatClampNeg + nI (i + 1))))) := by rw [e2, ← e1, ← nI_1, ← Int32.add_assoc, set_abab (by decide), upd_upd, upd_upd]
            have hP : va_P G vwCl ((((((ws.set 12 (am, .inr (9, mF ad (upd z 0 0) wi dm))).set 23 (ad 23, .inl (cI, 6, .inl (upd (F 23) x.toNatClampNeg f)))).set 24 (ad 24, .inl (cI, 6, .inl (upd (F 24) x.toNatClampNeg (rIt (F 21 x.toNatClampNeg) f (F 24 x.toNatClampNeg) i))))).set 25 (ad 25, .inl (cI, 6, .inl (upd (F 25) x.toNatClampNeg (F 25 x.toNatClampNeg + nI i))))).set 24 (ad 24, .inl (cI, 6, .inl (upd (upd (F 24) x.toNatClampNeg (rIt (F 21 x.toNatClampNeg) f (F 24 x.toNatClampNeg) i)) x.toNatClampNeg ((rIt (F 21 x.toNatClampNeg) f (F 24 x.toNatClampNeg) i) + (-1 : Int32)))))).set 25 (ad 25, .inl (cI, 6, .inl (upd (upd (F 25) x.toNatClampNeg (F 25 x.toNatClampNeg + nI i)) x.toNatClampNeg ((F 25 x.toNatClampNeg + nI i) + (1 : Int32)))))) H := hP
            have hD : va_D A ((((((ws.set 12 (am, .inr (9, mF ad (upd z 0 0) wi dm))).set 23 (ad 23, .inl (cI, 6, .inl (upd (F 23) x.toNatClampNeg f)))).set 24 (ad 24, .inl (cI, 6, .inl (upd (F 24) x.toNatClampNeg (rIt (F 21 x.toNatClampNeg) f (F 24 x.toNatClampNeg) i))))).set 25 (ad 25, .inl (cI, 6, .inl (upd (F 25) x.toNatClampNeg (F 25 x.toNatClampNeg + nI i))))).set 24 (ad 24, .inl (cI, 6, .inl (upd (upd (F 24) x.toNatClampNeg (rIt (F 21 x.toNatClampNeg) f (F 24 x.toNatClampNeg) i)) x.toNatClampNeg ((rIt (F 21 x.toNatClampNeg) f (F 24 x.toNatClampNeg) i) + (-1 : Int32)))))).set 25 (ad 25, .inl (cI, 6, .inl (upd (upd (F 25) x.toNatClampNeg (F 25 x.toNatClampNeg + nI i)) x.toNatClampNeg ((F 25 x.toNatClampNeg + nI i) + (1 : Int32)))))) := hD
            rw [ew] at hP hD
            exact ihi H _ ls hlti (fun j hj => (Nat.lt_or_ge j i).elim (fun q9 => hKi j q9) (fun q9 => by have h9 : j = i := (by omega); rw [h9]; exact hgo)) hP hD hS (lv_sub hl [4, 5, 6, 0, 1] rfl)
    · have hbd : oR f (-1000000) 1000000 := mIn_0.mp (h30.symm.trans c33)
      skip
      refine lv_aload_n hx hb dX8_flux_36 rfl (lv_at hl 0 rfl) ?_
      refine lv_iconst (v := 2) hx hb dX8_flux_37 (by decide) ?_
      refine va_calli (va_runV (As := [.int (2 : Int32)]) (rest := []) ⟨hx, hb, hml, hown, hts⟩ (metX8_stop l G tys _ hm (2 : Int32)) (cwV 1 hts gX8_flux_X8_stop rfl rfl rfl (by decide +kernel) ⟨Nat.le_of_ble_eq_true rfl, Nat.le_of_ble_eq_true rfl⟩) ⟨pcM_b, va_recv hK hP (ci := 9) (q0 := 12) rfl hm, pcM_u hP hK hD hS hA⟩ rfl rfl hl.1 rfl (lv_room (Nat.le_of_ble_eq_true rfl)) dX8_flux_38 ⟨Nat.le_of_ble_eq_true rfl, Nat.le_of_ble_eq_true rfl⟩) hS (fun q _ h => h) (fun q h => h) (fun r38 u t H locs ht hvm h38 hB hsz hk1 hS => ?_)
      rw [ht] at hB
      have hB := hB.1
      have hD := hD.set (e := .inr (9, mF ad (upd (upd z 0 (0 : Int32)) 0 (2 : Int32)) wi dm)) hm
      have hA21 := va_gs (k := 12) (e := (am, .inr (9, mF ad (upd (upd z 0 (0 : Int32)) 0 (2 : Int32)) wi dm))) (by decide) hA21
      have hA22 := va_gs (k := 12) (e := (am, .inr (9, mF ad (upd (upd z 0 (0 : Int32)) 0 (2 : Int32)) wi dm))) (by decide) hA22
      have hA23 := va_gs (k := 12) (e := (am, .inr (9, mF ad (upd (upd z 0 (0 : Int32)) 0 (2 : Int32)) wi dm))) (by decide) hA23
      have hA24 := va_gs (k := 12) (e := (am, .inr (9, mF ad (upd (upd z 0 (0 : Int32)) 0 (2 : Int32)) wi dm))) (by decide) hA24
      have hA25 := va_gs (k := 12) (e := (am, .inr (9, mF ad (upd (upd z 0 (0 : Int32)) 0 (2 : Int32)) wi dm))) (by decide) hA25
      have hm := va_ge (e := (am, .inr (9, mF ad (upd (upd z 0 (0 : Int32)) 0 (2 : Int32)) wi dm))) hm
      have hP : va_P G vwCl (((ws).set 12 (am, .inr (9, mF ad (upd z 0 (0 : Int32)) wi dm))).set 12 (am, .inr (9, mF ad (upd (upd z 0 (0 : Int32)) 0 (2 : Int32)) wi dm))) H := hB
      have hD : va_D A (((ws).set 12 (am, .inr (9, mF ad (upd z 0 (0 : Int32)) wi dm))).set 12 (am, .inr (9, mF ad (upd (upd z 0 (0 : Int32)) 0 (2 : Int32)) wi dm))) := hD
      have hcd : cdFlux x f (nI nR) = 2 := by unfold cdFlux; rw [if_neg k0, if_pos hbd]
      have ew : ((ws).set 12 (am, .inr (9, mF ad (upd z 0 (0 : Int32)) wi dm))).set 12 (am, .inr (9, mF ad (upd (upd z 0 (0 : Int32)) 0 (2 : Int32)) wi dm)) = (if cdFlux x f (nI nR) = 0 then (((ws.set 12 (am, .inr (9, mF ad (upd z 0 0) wi dm))).set 23 (ad 23, .inl (cI, 6, .inl (upd (F 23) x.toNatClampNeg f)))).set 24 (ad 24, .inl (cI, 6, .inl (upd (F 24) x.toNatClampNeg (rIt (F 21 x.toNatClampNeg) f (F 24 x.toNatClampNeg) 0))))).set 25 (ad 25, .inl (cI, 6, .inl (upd (F 25) x.toNatClampNeg (F 25 x.toNatClampNeg + nI 0)))) else ws.set 12 (am, .inr (9, mF ad (upd z 0 (cdFlux x f (nI nR))) wi dm))) := by rw [hcd, if_neg (by decide), List.set_set, upd_upd]
      have hP : va_P G vwCl (((ws).set 12 (am, .inr (9, mF ad (upd z 0 (0 : Int32)) wi dm))).set 12 (am, .inr (9, mF ad (upd (upd z 0 (0 : Int32)) 0 (2 : Int32)) wi dm))) H := hP
      have hD : va_D A (((ws).set 12 (am, .inr (9, mF ad (upd z 0 (0 : Int32)) wi dm))).set 12 (am, .inr (9, mF ad (upd (upd z 0 (0 : Int32)) 0 (2 : Int32)) wi dm))) := hD
      rw [ew] at hP hD
      exact W.iret (v := r38) hx hb hr (fun t ht hW => ⟨⟨r38, 0, rfl, (fun h0 => absurd (hcd.symm.trans h0) (by decide)), by show va_P G vwCl _ t.heap ∧ va_D A _; rw [ht]; exact ⟨hP, hD⟩⟩, hS.F ht⟩) hS.2.2 dX8_flux_41
  · have hbd : uK x (nI nR) := (oR_uK (by rw [hz13]) (show nR < 2 ^ 31 by omega)).mp (mIn_0.mp (h13.symm.trans c16))
    skip
    refine lv_aload_n hx hb dX8_flux_19 rfl (lv_at hl 0 rfl) ?_
    refine lv_iconst (v := 1) hx hb dX8_flux_20 (by decide) ?_
    refine va_calli (va_runV (As := [.int (1 : Int32)]) (rest := []) ⟨hx, hb, hml, hown, hts⟩ (metX8_stop l G tys _ hm (1 : Int32)) (cwV 1 hts gX8_flux_X8_stop rfl rfl rfl (by decide +kernel) ⟨Nat.le_of_ble_eq_true rfl, Nat.le_of_ble_eq_true rfl⟩) ⟨pcM_b, va_recv hK hP (ci := 9) (q0 := 12) rfl hm, pcM_u hP hK hD hS hA⟩ rfl rfl hl.1 rfl (lv_room (Nat.le_of_ble_eq_true rfl)) dX8_flux_21 ⟨Nat.le_of_ble_eq_true rfl, Nat.le_of_ble_eq_true rfl⟩) hS (fun q _ h => h) (fun q h => h) (fun r21 u t H locs ht hvm h21 hB hsz hk1 hS => ?_)
    rw [ht] at hB
    have hB := hB.1
    have hD := hD.set (e := .inr (9, mF ad (upd (upd z 0 (0 : Int32)) 0 (1 : Int32)) wi dm)) hm
    have hA21 := va_gs (k := 12) (e := (am, .inr (9, mF ad (upd (upd z 0 (0 : Int32)) 0 (1 : Int32)) wi dm))) (by decide) hA21
    have hA22 := va_gs (k := 12) (e := (am, .inr (9, mF ad (upd (upd z 0 (0 : Int32)) 0 (1 : Int32)) wi dm))) (by decide) hA22
    have hA23 := va_gs (k := 12) (e := (am, .inr (9, mF ad (upd (upd z 0 (0 : Int32)) 0 (1 : Int32)) wi dm))) (by decide) hA23
    have hA24 := va_gs (k := 12) (e := (am, .inr (9, mF ad (upd (upd z 0 (0 : Int32)) 0 (1 : Int32)) wi dm))) (by decide) hA24
    have hA25 := va_gs (k := 12) (e := (am, .inr (9, mF ad (upd (upd z 0 (0 : Int32)) 0 (1 : Int32)) wi dm))) (by decide) hA25
    have hm := va_ge (e := (am, .inr (9, mF ad (upd (upd z 0 (0 : Int32)) 0 (1 : Int32)) wi dm))) hm
    have hP : va_P G vwCl (((ws).set 12 (am, .inr (9, mF ad (upd z 0 (0 : Int32)) wi dm))).set 12 (am, .inr (9, mF ad (upd (upd z 0 (0 : Int32)) 0 (1 : Int32)) wi dm))) H := hB
    have hD : va_D A (((ws).set 12 (am, .inr (9, mF ad (upd z 0 (0 : Int32)) wi dm))).set 12 (am, .inr (9, mF ad (upd (upd z 0 (0 : Int32)) 0 (1 : Int32)) wi dm))) := hD
    have hcd : cdFlux x f (nI nR) = 1 := by unfold cdFlux; rw [if_pos hbd]
    have ew : ((ws).set 12 (am, .inr (9, mF ad (upd z 0 (0 : Int32)) wi dm))).set 12 (am, .inr (9, mF ad (upd (upd z 0 (0 : Int32)) 0 (1 : Int32)) wi dm)) = (if cdFlux x f (nI nR) = 0 then (((ws.set 12 (am, .inr (9, mF ad (upd z 0 0) wi dm))).set 23 (ad 23, .inl (cI, 6, .inl (upd (F 23) x.toNatClampNeg f)))).set 24 (ad 24, .inl (cI, 6, .inl (upd (F 24) x.toNatClampNeg (rIt (F 21 x.toNatClampNeg) f (F 24 x.toNatClampNeg) 0))))).set 25 (ad 25, .inl (cI, 6, .inl (upd (F 25) x.toNatClampNeg (F 25 x.toNatClampNeg + nI 0)))) else ws.set 12 (am, .inr (9, mF ad (upd z 0 (cdFlux x f (nI nR))) wi dm))) := by rw [hcd, if_neg (by decide), List.set_set, upd_upd]
    have hP : va_P G vwCl (((ws).set 12 (am, .inr (9, mF ad (upd z 0 (0 : Int32)) wi dm))).set 12 (am, .inr (9, mF ad (upd (upd z 0 (0 : Int32)) 0 (1 : Int32)) wi dm))) H := hP
    have hD : va_D A (((ws).set 12 (am, .inr (9, mF ad (upd z 0 (0 : Int32)) wi dm))).set 12 (am, .inr (9, mF ad (upd (upd z 0 (0 : Int32)) 0 (1 : Int32)) wi dm))) := hD
    rw [ew] at hP hD
    exact W.iret (v := r21) hx hb hr (fun t ht hW => ⟨⟨r21, 0, rfl, (fun h0 => absurd (hcd.symm.trans h0) (by decide)), by show va_P G vwCl _ t.heap ∧ va_D A _; rw [ht]; exact ⟨hP, hD⟩⟩, hS.F ht⟩) hS.2.2 dX8_flux_24
/-- where slips stop the number is small -/
theorem div_far {D i q : Nat} (hi : 1 ≤ i) (h100 : i ≤ 100) (hD : 1000 ≤ D) : (D - 1000) / i < D / i := by
  have h1 : (D - 1000) / i * i ≤ D - 1000 := Nat.div_mul_le_self _ _
  have h2 : ((D - 1000) / i + 1) * i ≤ D := by rw [Nat.add_mul]; omega
  exact Nat.lt_of_succ_le ((Nat.le_div_iff_mul_le hi).mpr h2)
theorem div_near {D i r : Nat} (hi : 1 ≤ i) (h100 : i ≤ 100) (hr : r ≤ 1000) (h : D / i ≤ r) : D ≤ 100100 := by
  have h1 : D < (D / i + 1) * i := by
    have := Nat.div_add_mod D i
    have h2 := Nat.mod_lt D (show i > 0 by omega)
    rw [Nat.add_mul, Nat.mul_comm (D / i) i]
    omega
  have h2 : (D / i + 1) * i ≤ 1001 * 100 := Nat.mul_le_mul (by omega) h100
  omega
section Rng
variable {ind cr fl : Int32} {i c r : Int}
theorem stop_rng (hi : ind.toInt = i) (i1 : 1 ≤ i) (i2 : i ≤ 100) (hc : fl.toInt = c) (c1 : -1000000 ≤ c) (c2 : c ≤ 1000000) (hr : cr.toInt = r) (r0 : 0 ≤ r) (r1 : r ≤ 1000) {n : Int32} {m : Int} (hm : n.toInt = m) (m1 : -4000 ≤ m) (m2 : m ≤ 4000) (hs : rStop ind cr fl n) : -1101 ≤ m ∧ m ≤ 1101 := by
  have hq := rCur_int (ind := ind) (fl := fl) hi i1 hc c1 c2 hm (by omega) (by omega)
  have hb := rBy_int hm (by omega) (by omega) hq
  have la := tdiv_abs (a := 1000 * m - c) i1
  have key : (1000 * m - c).natAbs ≤ 100100 := by
    rcases Nat.lt_or_ge (1000 * m - c).natAbs 1000 with z | z
    · omega
    rcases hs with h | h
    · rw [Int32.le_iff_toInt_le, jabs_int hq (by omega), hr, Int.natAbs_tdiv] at h
      exact div_near (i := i.natAbs) (r := r.toNat) (by omega) (by omega) (by omega) ((Int.le_toNat r0).mpr h)
    · exfalso
      have far := div_far (q := 0) (i := i.natAbs) (by omega) (by omega) z
      refine h ?_
      rcases Int.lt_or_le 0 ((1000 * m - c).tdiv i) with p | p
      · obtain ⟨b1, b2⟩ := hb.2 p
        have dp := tdiv_pos' i1 p
        have hq2 := rCur_int (ind := ind) (fl := fl) hi i1 hc c1 c2 b2 (by omega) (by omega)
        have l2 := tdiv_abs (a := 1000 * (m - 1) - c) i1
        rw [Int32.lt_iff_toInt_lt, jabs_int hq (by omega), jabs_int hq2 (by omega), Int.natAbs_tdiv, Int.natAbs_tdiv, show (1000 * (m - 1) - c).natAbs = (1000 * m - c).natAbs - 1000 by omega]
        exact Int.ofNat_lt.mpr far
      · obtain ⟨b1, b2⟩ := hb.1 p
        have dn : 1000 * m - c ≤ 0 := by
          rcases Int.lt_or_le 0 (1000 * m - c) with w | w
          · exfalso
            have e1 : (1000 * m - c).tdiv i = 0 := by
              have := Int.tdiv_nonneg (show 0 ≤ 1000 * m - c by omega) (show 0 ≤ i by omega)
              omega
            have e2 := congrArg Int.natAbs e1
            rw [Int.natAbs_tdiv] at e2
            have e3 : (1000 * m - c).natAbs / i.natAbs = 0 := e2
            rw [e3] at far
            exact Nat.not_lt_zero _ far
          · exact w
        have hq2 := rCur_int (ind := ind) (fl := fl) hi i1 hc c1 c2 b2 (by omega) (by omega)
        have l2 := tdiv_abs (a := 1000 * (m + 1) - c) i1
        rw [Int32.lt_iff_toInt_lt, jabs_int hq (by omega), jabs_int hq2 (by omega), Int.natAbs_tdiv, Int.natAbs_tdiv, show (1000 * (m + 1) - c).natAbs = (1000 * m - c).natAbs - 1000 by omega]
        exact Int.ofNat_lt.mpr far
  omega
/-- a slip brings the number nearer -/
theorem slip_near (hi : ind.toInt = i) (i1 : 1 ≤ i) (hc : fl.toInt = c) (c1 : -1000000 ≤ c) (c2 : c ≤ 1000000) (hr : cr.toInt = r) (r0 : 0 ≤ r) {n : Int32} {m : Int} (hm : n.toInt = m) (m1 : -4000 ≤ m) (m2 : m ≤ 4000) (hs : ¬ rStop ind cr fl n) : (1000 * (rBy ind fl n).toInt - c).natAbs ≤ (1000 * m - c).natAbs + 0 ∨ (1000 * (rBy ind fl n).toInt - c).natAbs ≤ 1000 := by
  have hq := rCur_int (ind := ind) (fl := fl) hi i1 hc c1 c2 hm (by omega) (by omega)
  have hb := rBy_int hm (by omega) (by omega) hq
  have la := tdiv_abs (a := 1000 * m - c) i1
  have hs1 : ¬ jabs (rCur ind fl n) ≤ cr := fun z => hs (Or.inl z)
  rw [Int32.le_iff_toInt_le, jabs_int hq (by omega), hr] at hs1
  rcases Int.lt_or_le 0 ((1000 * m - c).tdiv i) with p | p
  · obtain ⟨b1, b2⟩ := hb.2 p
    have dp := tdiv_pos' i1 p
    rw [b2]; omega
  · obtain ⟨b1, b2⟩ := hb.1 p
    have dn := tdiv_neg' (a := 1000 * m - c) i1 (by omega)
    rw [b2]; omega
theorem slips_near (hi : ind.toInt = i) (i1 : 1 ≤ i) (hc : fl.toInt = c) (c1 : -1000000 ≤ c) (c2 : c ≤ 1000000) (hr : cr.toInt = r) (r0 : 0 ≤ r) : ∀ (u : Nat) (n : Int32), (-1101 ≤ n.toInt ∧ n.toInt ≤ 1101) → (∀ j, j < u → ¬ rStop ind cr fl (rIt ind fl n j)) → (1000 * (rIt ind fl n u).toInt - c).natAbs ≤ 2101000 := by
  intro u n hn
  induction u with
  | zero => intro _; show (1000 * n.toInt - c).natAbs ≤ 2101000; omega
  | succ u ih =>
    intro h
    have h1 := ih (fun j hj => h j (by omega))
    have h2 := slip_near hi i1 hc c1 c2 hr r0 rfl (by omega) (by omega) (h u (by omega))
    show (1000 * (rBy ind fl (rIt ind fl n u)).toInt - c).natAbs ≤ 2101000
    omega
theorem flux_rng (hi : ind.toInt = i) (i1 : 1 ≤ i) (i2 : i ≤ 100) (hc : fl.toInt = c) (c1 : -1000000 ≤ c) (c2 : c ≤ 1000000) (hr : cr.toInt = r) (r0 : 0 ≤ r) (r1 : r ≤ 1000) {n : Int32} (hn : -1101 ≤ n.toInt ∧ n.toInt ≤ 1101) {u : Nat} (hs : rStop ind cr fl (rIt ind fl n u)) (hu : ∀ j, j < u → ¬ rStop ind cr fl (rIt ind fl n j)) : -1101 ≤ (rIt ind fl n u).toInt ∧ (rIt ind fl n u).toInt ≤ 1101 := by
  have h1 := slips_near hi i1 hc c1 c2 hr r0 u n hn hu
  exact stop_rng hi i1 i2 hc c1 c2 hr r0 r1 rfl (by omega) (by omega) hs
theorem flux_term (hi : ind.toInt = i) (i1 : 1 ≤ i) (hc : fl.toInt = c) (c1 : -1000000 ≤ c) (c2 : c ≤ 1000000) (hr : cr.toInt = r) (r0 : 0 ≤ r) {n : Int32} (hn : -1101 ≤ n.toInt ∧ n.toInt ≤ 1101) : ∃ j, j < 1000000 ∧ rStop ind cr fl (rIt ind fl n j) := by
  obtain ⟨j, h1, h2⟩ := slips_end hi i1 hc c1 c2 hr r0 2101 n _ rfl (by omega) (by omega)
  exact ⟨j, by omega, h2⟩
end Rng
