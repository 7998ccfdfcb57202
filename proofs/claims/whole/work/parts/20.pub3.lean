theorem lsL_ga {ws w2 : va_W} {tE : Nat} {cO : ClassId} {pl al c pe : Nat} {el : Nat → Nat} (h : lsL ws tE cO pl al c el pe) : lsL (ws ++ w2) tE cO pl al c el pe := by
  obtain ⟨mo, ⟨h0, hL⟩ | ⟨h0, ae, n, a, hL, he, hr⟩⟩ := h
  · exact ⟨mo, Or.inl ⟨h0, va_ga hL⟩⟩
  · exact ⟨mo, Or.inr ⟨h0, ae, n, a, va_ga hL, va_ga he, hr⟩⟩
theorem lsL_of {ws w2 : va_W} {tE : Nat} {cO : ClassId} {pl al c pe : Nat} {el : Nat → Nat} (h : lsL ws tE cO pl al c el pe) (h1 : ∀ x, ws[pl]? = some x → w2[pl]? = some x) (h2 : 0 < c → ∀ x, ws[pe]? = some x → w2[pe]? = some x) : lsL w2 tE cO pl al c el pe := by
  obtain ⟨mo, ⟨h0, hL⟩ | ⟨h0, ae, n, a, hL, he, hr⟩⟩ := h
  · exact ⟨mo, Or.inl ⟨h0, h1 _ hL⟩⟩
  · exact ⟨mo, Or.inr ⟨h0, ae, n, a, h1 _ hL, h2 h0 _ he, hr⟩⟩
theorem lsL_ne {ws : va_W} {tE : Nat} {cO : ClassId} {pl al c pe j b c0 : Nat} {el : Nat → Nat} {y : List Value} (h : lsL ws tE cO pl al c el pe) (hj : ws[j]? = some (b, .inr (c0, y))) (hc : c0 ≠ 0) : j ≠ pl ∧ (0 < c → j ≠ pe) := by
  obtain ⟨mo, ⟨h0, hL⟩ | ⟨h0, ae, n, a, hL, he, hr⟩⟩ := h
  · exact ⟨ne_oo hj hL hc, fun q => by omega⟩
  · exact ⟨ne_oo hj hL hc, fun _ => (ne_lr he hj).symm⟩
theorem lsL_cell {ws : va_W} {tE : Nat} {cO : ClassId} {pl al c pe : Nat} {el : Nat → Nat} (h : lsL ws tE cO pl al c el pe) : ∃ (mo : Int32) (ae : Nat), ws[pl]? = some (al, .inr (0, [.int mo, .ref ae, .int (nI c)])) := by
  obtain ⟨mo, ⟨rfl, hL⟩ | ⟨h0, ae, n, a, hL, he, hr⟩⟩ := h
  · exact ⟨mo, _, hL⟩
  · exact ⟨mo, _, hL⟩
theorem lsA_of {ws : va_W} {tE : Nat} {cO : ClassId} {pl al c pe v j b c0 : Nat} {el : Nat → Nat} {y : List Value} {w2 : va_W} (hls : lsL ws tE cO pl al c el pe) (h : lsA ws tE cO pl al c el pe v w2) (hj : ws[j]? = some (b, .inr (c0, y))) (hc : c0 ≠ 0) : w2[j]? = some (b, .inr (c0, y)) := by
  obtain ⟨pe2, -, -, h3⟩ := h
  obtain ⟨g1, g2⟩ := lsL_ne hls hj hc
  exact h3 j _ g1 g2 hj
theorem metSize (l : Launch) (G : va_G) (tys : List (ClassId × FieldType)) (ws : va_W) {tE : Nat} {cO : ClassId} {pl al c pe : Nat} {el : Nat → Nat} (h : lsL ws tE cO pl al c el pe) : Met l yJx4a65c_size_8abf5 wsJx4a65c_size_8abf5 ({ frames := 0, cells := 0, slots := 0, locals := 0 }) (pcR G tys ws [.ref al]) (vp_Si (fun r => r = nI c)) 0 0 (fun _ => False) := by
  obtain ⟨mo, ae, hL⟩ := lsL_cell h
  exact metJx4a65c_size_8abf5 l G tys ws hL
theorem metGet (l : Launch) (G : va_G) (tys : List (ClassId × FieldType)) (ws : va_W) {tE : Nat} {cO : ClassId} (htO : tO tys cO) {pl al c pe : Nat} {el : Nat → Nat} (h : lsL ws tE cO pl al c el pe) (x : Int32) (hx : ¬ uK x (nI c)) : Met l yJx4a65c_get_915e3 wsJx4a65c_get_915e3 ({ frames := 2, cells := 0, slots := 0, locals := 43 }) (pcR G tys ws [.ref al, .int x]) (va_Sq (fun r => r = some (el x.toNatClampNeg))) 0 0 (fun _ => False) := by
  obtain ⟨hxe, hxl⟩ := uK_ix hx
  obtain ⟨mo, ⟨rfl, hL⟩ | ⟨h0, ae, n, a, hL, he, hcn, h10, h100, hae, han⟩⟩ := h
  · omega
  · have k := metJx4a65c_get_915e3 l G tys ws hL htO he x (fun q => hx (Or.inl q)) (Int32.not_le.mp (fun q => hx (Or.inr q))) (fun q => q.elim (fun z => hx (Or.inl z)) (fun z => by omega))
    rw [hae _ hxl] at k
    exact k
set_option maxHeartbeats 4000000 in
set_option maxRecDepth 100000 in
theorem metX7_margins (l : Launch) (hnt : l.stackTraces = false) (G : va_G) (tys : List (ClassId × FieldType)) {A : Nat → Prop} {tE mi : Nat} (ws : va_W) {pv v aS af aR ao ak aP aC : Nat} (hv : ws[pv]? = some (v, .inr (8, [.ref aS, .ref af, .ref aR, .ref ao, .ref ak, .ref aP, .ref aC]))) {pk : Nat} {l0 u0 co : Int32} (hk : ws[pk]? = some (ak, .inr (3, [.int l0, .int u0, .int co]))) (lo up : Int32) : vx_Met l yX7_margins wsX7_margins { frames := 7, cells := 2, slots := 12, locals := 104 } (pcX G tys ws A tE mi [.ref v, .int lo, .int up]) (va_Qv (fun (_ : Unit) => cdMargins lo up = 0 ∧ True) (fun _ t => va_P G vwCl (ws.set pk (ak, .inr (3, [.int lo, .int up, .int co]))) t.heap ∧ va_D A (ws.set pk (ak, .inr (3, [.int lo, .int up, .int co])))) A) (xcT (fun E => xC (cdMargins lo up) eIA "" "" E)) 2 12 A := by
  refine ofX (cc := cX7_margins) (maxL := 3) (ret := none) (by decide) rfl (Nat.le_of_ble_eq_true rfl) ?_
  intro p e s m below meth c ls hx hb hr hlocks hml hown hts hno hl hP hK hD hA hS hE
  have hown : s.vm.findClass RX7 = some m.cls := hown
  have hiX2 : ∀ w ∈ u_ws RX2 TX2 3, w ∈ wsX7_margins := fun _ h => List.mem_cons_of_mem _ (List.mem_append_left _ (List.mem_append_right _ h))
  have hiX7 : ∀ w ∈ u_ws RX7 TX7 7, w ∈ wsX7_margins := fun _ h => List.mem_cons_of_mem _ (List.mem_append_left _ (List.mem_append_left _ (List.mem_append_right _ h)))
  have hl : lv_has ls 3 [(0, .ref v), (1, .int lo), (2, .int up)] := hl
  have hO : okO s s.heap := ⟨Nat.le_refl _, fun _ _ => rfl⟩
  refine lv_iload_n hx hb dX7_margins_0 rfl (lv_at hl 1 rfl) ?_
  refine lv_iconst (v := 0) hx hb dX7_margins_1 (by decide) ?_
  refine lv_sipush (v := 1000) hx hb dX7_margins_2 (by decide) ?_
  refine ref_step (vx_runS (As := [.int lo, .int (0 : Int32), .int (1000 : Int32)]) (rest := []) ⟨hx, hb, hml, hown, hts⟩ (metX7_refuseOutside l hnt lo (0 : Int32) (1000 : Int32)) (va_cwS 3 hts gX7_margins_X7_refuseOutside rfl rfl rfl (by decide +kernel) ⟨Nat.le_of_ble_eq_true rfl, Nat.le_of_ble_eq_true rfl⟩) ⟨pcE_b, pcE_u hE hS hA⟩ rfl rfl hl.1 rfl (lv_room (Nat.le_of_ble_eq_true rfl)) dX7_margins_5 ⟨Nat.le_of_ble_eq_true rfl, Nat.le_of_ble_eq_true rfl⟩) hno hlocks hS hO hP (fun hbd => Or.inl ⟨by unfold cdMargins; rw [if_pos hbd], rfl⟩) (Nat.le_of_ble_eq_true rfl) (Nat.le_of_ble_eq_true rfl) (fun k0 H locs hS hO hP => ?_)
  refine lv_iload_n hx hb dX7_margins_8 rfl (lv_at hl 2 rfl) ?_
  refine lv_iload_n hx hb dX7_margins_9 rfl (lv_at hl 1 rfl) ?_
  refine lv_sipush (v := 1000) hx hb dX7_margins_10 (by decide) ?_
  refine ref_step (vx_runS (As := [.int up, .int lo, .int (1000 : Int32)]) (rest := []) ⟨hx, hb, hml, hown, hts⟩ (metX7_refuseOutside l hnt up lo (1000 : Int32)) (va_cwS 3 hts gX7_margins_X7_refuseOutside rfl rfl rfl (by decide +kernel) ⟨Nat.le_of_ble_eq_true rfl, Nat.le_of_ble_eq_true rfl⟩) ⟨pcE_b, pcE_u hE hS hA⟩ rfl rfl hl.1 rfl (lv_room (Nat.le_of_ble_eq_true rfl)) dX7_margins_13 ⟨Nat.le_of_ble_eq_true rfl, Nat.le_of_ble_eq_true rfl⟩) hno hlocks hS hO hP (fun hbd => Or.inl ⟨by unfold cdMargins; rw [if_neg k0, if_pos hbd], rfl⟩) (Nat.le_of_ble_eq_true rfl) (Nat.le_of_ble_eq_true rfl) (fun k1 H locs hS hO hP => ?_)
  refine lv_aload_n hx hb dX7_margins_16 rfl (lv_at hl 0 rfl) ?_
  refine va_get (D := G) (ci := 8) (v := .ref ak) (C := RX7) (T := TX7) (N := 7) hx hb hts hiX7 hown hK hP pv hv rfl 4 (by decide) (hts (.fieldLink RX7 36 "Vortexpin" "counter" "LVortexpin$Counter;") (List.mem_of_getElem? (i := 1) rfl)) (fun _ h9 => h9) rfl dX7_margins_17 ?_
  refine lv_iload_n hx hb dX7_margins_20 rfl (lv_at hl 1 rfl) ?_
  refine va_put (D := G) (ci := 3) (v := .int lo) (ty := .int) (C := RX2) (T := TX2) (N := 3) hx hb hts hiX2 tyX2 tyX2_ok nmX2 hown hK hP hD hS pk hk rfl 0 (by decide) (hts (.fieldLink RX7 179 "Vortexpin$Counter" "lower" "I") (List.mem_of_getElem? (i := 2) rfl)) (fun _ h9 => h9) rfl (by decide +kernel) (rfl) (rfl) (Nat.le_of_ble_eq_true rfl) dX7_margins_21 (fun H locs hP hD hS => ?_)
  have hv := va_gs (k := pk) (e := (ak, .inr (3, [.int lo, .int u0, .int co]))) (ne_oo hv hk (by decide)) hv
  have hk := va_ge (e := (ak, .inr (3, [.int lo, .int u0, .int co]))) hk
  refine lv_aload_n hx hb dX7_margins_24 rfl (lv_at hl 0 rfl) ?_
  refine va_get (D := G) (ci := 8) (v := .ref ak) (C := RX7) (T := TX7) (N := 7) hx hb hts hiX7 hown hK hP pv hv rfl 4 (by decide) (hts (.fieldLink RX7 36 "Vortexpin" "counter" "LVortexpin$Counter;") (List.mem_of_getElem? (i := 1) rfl)) (fun _ h9 => h9) rfl dX7_margins_25 ?_
  refine lv_iload_n hx hb dX7_margins_28 rfl (lv_at hl 2 rfl) ?_
  refine va_put (D := G) (ci := 3) (v := .int up) (ty := .int) (C := RX2) (T := TX2) (N := 3) hx hb hts hiX2 tyX2 tyX2_ok nmX2 hown hK hP hD hS pk hk rfl 1 (by decide) (hts (.fieldLink RX7 182 "Vortexpin$Counter" "upper" "I") (List.mem_of_getElem? (i := 3) rfl)) (fun _ h9 => h9) rfl (by decide +kernel) (rfl) (rfl) (Nat.le_of_ble_eq_true rfl) dX7_margins_29 (fun H locs hP hD hS => ?_)
  have hv := va_gs (k := pk) (e := (ak, .inr (3, [.int lo, .int up, .int co]))) (ne_oo hv hk (by decide)) hv
  have hk := va_ge (e := (ak, .inr (3, [.int lo, .int up, .int co]))) hk
  refine W.widen (k := 2) (n := 12) (Nat.le_of_ble_eq_true rfl) (Nat.le_of_ble_eq_true rfl) (vx_ret ?_)
  have ew : ((ws).set pk (ak, .inr (3, [.int lo, .int u0, .int co]))).set pk (ak, .inr (3, [.int lo, .int up, .int co])) = ws.set pk (ak, .inr (3, [.int lo, .int up, .int co])) := by simp only [List.set_set, ↓reduceIte, not_true_eq_false, not_false_eq_true]
  have hP : va_P G vwCl (((ws).set pk (ak, .inr (3, [.int lo, .int u0, .int co]))).set pk (ak, .inr (3, [.int lo, .int up, .int co]))) H := hP
  have hD : va_D A (((ws).set pk (ak, .inr (3, [.int lo, .int u0, .int co]))).set pk (ak, .inr (3, [.int lo, .int up, .int co]))) := hD
  rw [ew] at hP hD
  exact W.vret hx hb hr (fun t ht hW => ⟨⟨(), rfl, ⟨by unfold cdMargins; rw [if_neg k0, if_neg k1], trivial⟩, by show va_P G vwCl _ t.heap ∧ va_D A _; rw [ht]; exact ⟨hP, hD⟩⟩, hS.F ht⟩) hS.2.2 dX7_margins_32
set_option maxHeartbeats 4000000 in
set_option maxRecDepth 100000 in
theorem metX7_pulse (l : Launch) (hnt : l.stackTraces = false) (G : va_G) (tys : List (ClassId × FieldType)) {A : Nat → Prop} {tE mi : Nat} (ws : va_W) {pv v aS af aR ao ak aP aC : Nat} (hv : ws[pv]? = some (v, .inr (8, [.ref aS, .ref af, .ref aR, .ref ao, .ref ak, .ref aP, .ref aC]))) {pk : Nat} {l0 u0 co : Int32} (hk : ws[pk]? = some (ak, .inr (3, [.int l0, .int u0, .int co]))) (be bi : Int32) : vx_Met l yX7_pulse wsX7_pulse { frames := 7, cells := 2, slots := 12, locals := 104 } (pcX G tys ws A tE mi [.ref v, .int be, .int bi]) (va_Qi (fun (r : Int32) (_ : Unit) => cdPulse be bi = 0 ∧ r = kTake l0 u0 co be bi) (fun _ t => va_P G vwCl (ws.set pk (ak, .inr (3, [.int l0, .int u0, .int (kTake l0 u0 co be bi)]))) t.heap ∧ va_D A (ws.set pk (ak, .inr (3, [.int l0, .int u0, .int (kTake l0 u0 co be bi)])))) A) (xcT (fun E => xC (cdPulse be bi) eIA "" "" E)) 2 12 A := by
  refine ofX (cc := cX7_pulse) (maxL := 3) (ret := some .int) (by decide) rfl (Nat.le_of_ble_eq_true rfl) ?_
  intro p e s m below meth c ls hx hb hr hlocks hml hown hts hno hl hP hK hD hA hS hE
  have hown : s.vm.findClass RX7 = some m.cls := hown
  have hiX7 : ∀ w ∈ u_ws RX7 TX7 7, w ∈ wsX7_pulse := fun _ h => List.mem_cons_of_mem _ (List.mem_append_left _ (List.mem_append_left _ (List.mem_append_right _ h)))
  have hl : lv_has ls 3 [(0, .ref v), (1, .int be), (2, .int bi)] := hl
  have hO : okO s s.heap := ⟨Nat.le_refl _, fun _ _ => rfl⟩
  refine lv_iload_n hx hb dX7_pulse_0 rfl (lv_at hl 1 rfl) ?_
  refine lv_iconst (v := 1) hx hb dX7_pulse_1 (by decide) ?_
  refine lv_sipush (v := 1000) hx hb dX7_pulse_2 (by decide) ?_
  refine ref_step (vx_runS (As := [.int be, .int (1 : Int32), .int (1000 : Int32)]) (rest := []) ⟨hx, hb, hml, hown, hts⟩ (metX7_refuseOutside l hnt be (1 : Int32) (1000 : Int32)) (va_cwS 3 hts gX7_pulse_X7_refuseOutside rfl rfl rfl (by decide +kernel) ⟨Nat.le_of_ble_eq_true rfl, Nat.le_of_ble_eq_true rfl⟩) ⟨pcE_b, pcE_u hE hS hA⟩ rfl rfl hl.1 rfl (lv_room (Nat.le_of_ble_eq_true rfl)) dX7_pulse_5 ⟨Nat.le_of_ble_eq_true rfl, Nat.le_of_ble_eq_true rfl⟩) hno hlocks hS hO hP (fun hbd => Or.inl ⟨by unfold cdPulse; rw [if_pos hbd], rfl⟩) (Nat.le_of_ble_eq_true rfl) (Nat.le_of_ble_eq_true rfl) (fun k0 H locs hS hO hP => ?_)
  refine lv_iload_n hx hb dX7_pulse_8 rfl (lv_at hl 2 rfl) ?_
  refine lv_iconst (v := 0) hx hb dX7_pulse_9 (by decide) ?_
  refine lv_sipush (v := 1000) hx hb dX7_pulse_10 (by decide) ?_
  refine ref_step (vx_runS (As := [.int bi, .int (0 : Int32), .int (1000 : Int32)]) (rest := []) ⟨hx, hb, hml, hown, hts⟩ (metX7_refuseOutside l hnt bi (0 : Int32) (1000 : Int32)) (va_cwS 3 hts gX7_pulse_X7_refuseOutside rfl rfl rfl (by decide +kernel) ⟨Nat.le_of_ble_eq_true rfl, Nat.le_of_ble_eq_true rfl⟩) ⟨pcE_b, pcE_u hE hS hA⟩ rfl rfl hl.1 rfl (lv_room (Nat.le_of_ble_eq_true rfl)) dX7_pulse_13 ⟨Nat.le_of_ble_eq_true rfl, Nat.le_of_ble_eq_true rfl⟩) hno hlocks hS hO hP (fun hbd => Or.inl ⟨by unfold cdPulse; rw [if_neg k0, if_pos hbd], rfl⟩) (Nat.le_of_ble_eq_true rfl) (Nat.le_of_ble_eq_true rfl) (fun k1 H locs hS hO hP => ?_)
  refine lv_aload_n hx hb dX7_pulse_16 rfl (lv_at hl 0 rfl) ?_
  refine va_get (D := G) (ci := 8) (v := .ref ak) (C := RX7) (T := TX7) (N := 7) hx hb hts hiX7 hown hK hP pv hv rfl 4 (by decide) (hts (.fieldLink RX7 36 "Vortexpin" "counter" "LVortexpin$Counter;") (List.mem_of_getElem? (i := 1) rfl)) (fun _ h9 => h9) rfl dX7_pulse_17 ?_
  refine lv_iload_n hx hb dX7_pulse_20 rfl (lv_at hl 1 rfl) ?_
  refine lv_iload_n hx hb dX7_pulse_21 rfl (lv_at hl 2 rfl) ?_
  refine va_calli (va_runV (As := [.int be, .int bi]) (rest := []) ⟨hx, hb, hml, hown, hts⟩ (metX2_take l G tys _ hk be bi) (cwV 2 hts gX7_pulse_X2_take rfl rfl rfl (by decide +kernel) ⟨Nat.le_of_ble_eq_true rfl, Nat.le_of_ble_eq_true rfl⟩) ⟨pcM_b, va_recv hK hP (ci := 3) (q0 := pk) rfl hk, pcM_u hP hK hD hS hA⟩ rfl rfl hl.1 rfl (lv_room (Nat.le_of_ble_eq_true rfl)) dX7_pulse_22 ⟨Nat.le_of_ble_eq_true rfl, Nat.le_of_ble_eq_true rfl⟩) hS (fun q _ h => h) (fun q h => h) (fun r22 u t H locs ht hvm h22 hB hsz hk1 hS => ?_)
  rw [ht] at hB
  have hD := hD.set (e := .inr (3, [.int l0, .int u0, .int (kTake l0 u0 co be bi)])) hk
  have hv := va_gs (k := pk) (e := (ak, .inr (3, [.int l0, .int u0, .int (kTake l0 u0 co be bi)]))) (ne_oo hv hk (by decide)) hv
  have hk := va_ge (e := (ak, .inr (3, [.int l0, .int u0, .int (kTake l0 u0 co be bi)]))) hk
  have hP : va_P G vwCl ((ws).set pk (ak, .inr (3, [.int l0, .int u0, .int (kTake l0 u0 co be bi)]))) H := hB
  have hD : va_D A ((ws).set pk (ak, .inr (3, [.int l0, .int u0, .int (kTake l0 u0 co be bi)]))) := hD
  refine W.widen (k := 2) (n := 12) (Nat.le_of_ble_eq_true rfl) (Nat.le_of_ble_eq_true rfl) (vx_ret ?_)
  have ew : (ws).set pk (ak, .inr (3, [.int l0, .int u0, .int (kTake l0 u0 co be bi)])) = ws.set pk (ak, .inr (3, [.int l0, .int u0, .int (kTake l0 u0 co be bi)])) := by subst h22; simp only [List.set_set, ↓reduceIte, not_true_eq_false, not_false_eq_true]
  have hP : va_P G vwCl ((ws).set pk (ak, .inr (3, [.int l0, .int u0, .int (kTake l0 u0 co be bi)]))) H := hP
  have hD : va_D A ((ws).set pk (ak, .inr (3, [.int l0, .int u0, .int (kTake l0 u0 co be bi)]))) := hD
  rw [ew] at hP hD
  exact W.iret (v := r22) hx hb hr (fun t ht hW => ⟨⟨r22, (), rfl, ⟨by unfold cdPulse; rw [if_neg k0, if_neg k1], h22⟩, by show va_P G vwCl _ t.heap ∧ va_D A _; rw [ht]; exact ⟨hP, hD⟩⟩, hS.F ht⟩) hS.2.2 dX7_pulse_25
set_option maxHeartbeats 4000000 in
set_option maxRecDepth 100000 in
theorem metX7_bit (l : Launch) (hnt : l.stackTraces = false) (G : va_G) (tys : List (ClassId × FieldType)) {A : Nat → Prop} {tE mi : Nat} (ws : va_W) {pv v aS af aR ao ak aP aC : Nat} (hv : ws[pv]? = some (v, .inr (8, [.ref aS, .ref af, .ref aR, .ref ao, .ref ak, .ref aP, .ref aC]))) {pk : Nat} {l0 u0 co : Int32} (hk : ws[pk]? = some (ak, .inr (3, [.int l0, .int u0, .int co]))) (x : Int32) : vx_Met l yX7_bit wsX7_bit { frames := 7, cells := 1, slots := 6, locals := 103 } (pcX G tys ws A tE mi [.ref v, .int x]) (va_Qi (fun (r : Int32) (_ : Unit) => cdOne x 16 = 0 ∧ r = (co >>> (x &&& 31)) &&& 1) (fun _ t => va_P G vwCl (ws) t.heap ∧ va_D A (ws)) A) (xcT (fun E => xC (cdOne x 16) eIB "" "" E)) 1 6 A := by
  refine ofX (cc := cX7_bit) (maxL := 2) (ret := some .int) (by decide) rfl (Nat.le_of_ble_eq_true rfl) ?_
  intro p e s m below meth c ls hx hb hr hlocks hml hown hts hno hl hP hK hD hA hS hE
  have hown : s.vm.findClass RX7 = some m.cls := hown
  have hiX2 : ∀ w ∈ u_ws RX2 TX2 3, w ∈ wsX7_bit := fun _ h => List.mem_cons_of_mem _ (List.mem_append_left _ (List.mem_append_right _ h))
  have hiX7 : ∀ w ∈ u_ws RX7 TX7 7, w ∈ wsX7_bit := fun _ h => List.mem_cons_of_mem _ (List.mem_append_left _ (List.mem_append_left _ (List.mem_append_right _ h)))
  have hl : lv_has ls 2 [(0, .ref v), (1, .int x)] := hl
  have hO : okO s s.heap := ⟨Nat.le_refl _, fun _ _ => rfl⟩
  refine lv_iload_n hx hb dX7_bit_0 rfl (lv_at hl 1 rfl) ?_
  refine lv_bipush (v := 16) hx hb dX7_bit_1 (by decide) ?_
  refine ref_step (vx_runS (As := [.int x, .int (16 : Int32)]) (rest := []) ⟨hx, hb, hml, hown, hts⟩ (metX7_refuseUnknown l hnt x (16 : Int32)) (va_cwS 2 hts gX7_bit_X7_refuseUnknown rfl rfl rfl (by decide +kernel) ⟨Nat.le_of_ble_eq_true rfl, Nat.le_of_ble_eq_true rfl⟩) ⟨pcE_b, pcE_u hE hS hA⟩ rfl rfl hl.1 rfl (lv_room (Nat.le_of_ble_eq_true rfl)) dX7_bit_3 ⟨Nat.le_of_ble_eq_true rfl, Nat.le_of_ble_eq_true rfl⟩) hno hlocks hS hO hP (fun hbd => Or.inl ⟨by unfold cdOne; rw [if_pos hbd], rfl⟩) (Nat.le_of_ble_eq_true rfl) (Nat.le_of_ble_eq_true rfl) (fun k0 H locs hS hO hP => ?_)
  refine lv_aload_n hx hb dX7_bit_6 rfl (lv_at hl 0 rfl) ?_
  refine va_get (D := G) (ci := 8) (v := .ref ak) (C := RX7) (T := TX7) (N := 7) hx hb hts hiX7 hown hK hP pv hv rfl 4 (by decide) (hts (.fieldLink RX7 36 "Vortexpin" "counter" "LVortexpin$Counter;") (List.mem_of_getElem? (i := 1) rfl)) (fun _ h9 => h9) rfl dX7_bit_7 ?_
  refine va_get (D := G) (ci := 3) (v := .int co) (C := RX2) (T := TX2) (N := 3) hx hb hts hiX2 hown hK hP pk hk rfl 2 (by decide) (hts (.fieldLink RX7 188 "Vortexpin$Counter" "count" "I") (List.mem_of_getElem? (i := 2) rfl)) (fun _ h9 => h9) rfl dX7_bit_10 ?_
  refine lv_iload_n hx hb dX7_bit_13 rfl (lv_at hl 1 rfl) ?_
  refine lv_ishr hx hb dX7_bit_14 ?_
  refine lv_iconst (v := 1) hx hb dX7_bit_15 (by decide) ?_
  refine lv_iand hx hb dX7_bit_16 ?_
  refine W.widen (k := 1) (n := 6) (Nat.le_of_ble_eq_true rfl) (Nat.le_of_ble_eq_true rfl) (vx_ret ?_)
  exact W.iret (v := (co >>> (x &&& 31)) &&& (1 : Int32)) hx hb hr (fun t ht hW => ⟨⟨(co >>> (x &&& 31)) &&& (1 : Int32), (), rfl, ⟨by unfold cdOne; rw [if_neg k0], rfl⟩, by show va_P G vwCl _ t.heap ∧ va_D A _; rw [ht]; exact ⟨hP, hD⟩⟩, hS.F ht⟩) hS.2.2 dX7_bit_17
set_option maxHeartbeats 4000000 in
set_option maxRecDepth 100000 in
theorem metX7_set (l : Launch) (hnt : l.stackTraces = false) (G : va_G) (tys : List (ClassId × FieldType)) {A : Nat → Prop} {tE mi : Nat} (ws : va_W) {cO : ClassId} (htO : tO tys cO) {pv v aS af aR ao ak aP aC : Nat} (hv : ws[pv]? = some (v, .inr (8, [.ref aS, .ref af, .ref aR, .ref ao, .ref ak, .ref aP, .ref aC]))) {pS qS nS : Nat} {eS : Nat → Nat} (hS9 : lsL ws tE cO pS aS nS eS qS) {gS : Nat → Nat} {sc sl su st sf : Nat → Int32} (hSm : ∀ i, i < nS → ws[gS i]? = some (eS i, .inr (7, [.int (sc i), .int (sl i), .int (su i), .int (st i), .int (sf i)]))) (x tm f : Int32) : vx_Met l yX7_set wsX7_set { frames := 7, cells := 3, slots := 18, locals := 104 } (pcX G tys ws A tE mi [.ref v, .int x, .int tm, .int f]) (va_Qi (fun (r : Int32) (_ : Unit) => cdSet x tm f (nI nS) = 0 ∧ r = sPh (sc x.toNatClampNeg) (sl x.toNatClampNeg) (su x.toNatClampNeg) tm f) (fun _ t => va_P G vwCl (ws.set (gS x.toNatClampNeg) (eS x.toNatClampNeg, .inr (7, [.int (sc x.toNatClampNeg), .int (sl x.toNatClampNeg), .int (su x.toNatClampNeg), .int tm, .int f]))) t.heap ∧ va_D A (ws.set (gS x.toNatClampNeg) (eS x.toNatClampNeg, .inr (7, [.int (sc x.toNatClampNeg), .int (sl x.toNatClampNeg), .int (su x.toNatClampNeg), .int tm, .int f])))) A) (xcT (fun E => xC (cdSet x tm f (nI nS)) eIB eIA "" E)) 3 18 A := by
  refine ofX (cc := cX7_set) (maxL := 5) (ret := some .int) (by decide) rfl (Nat.le_of_ble_eq_true rfl) ?_
  intro p e s m below meth c ls hx hb hr hlocks hml hown hts hno hl hP hK hD hA hS hE
  have hown : s.vm.findClass RX7 = some m.cls := hown
  have hiX6 : ∀ w ∈ u_ws RX6 TX6 5, w ∈ wsX7_set := fun _ h => List.mem_cons_of_mem _ (List.mem_append_left _ (List.mem_append_left _ (List.mem_append_left _ (List.mem_append_right _ h))))
  have hiX7 : ∀ w ∈ u_ws RX7 TX7 7, w ∈ wsX7_set := fun _ h => List.mem_cons_of_mem _ (List.mem_append_left _ (List.mem_append_left _ (List.mem_append_left _ (List.mem_append_left _ (List.mem_append_right _ h)))))
  have hl : lv_has ls 5 [(0, .ref v), (1, .int x), (2, .int tm), (3, .int f)] := hl
  have hO : okO s s.heap := ⟨Nat.le_refl _, fun _ _ => rfl⟩
  refine lv_iload_n hx hb dX7_set_0 rfl (lv_at hl 1 rfl) ?_
  refine lv_aload_n hx hb dX7_set_1 rfl (lv_at hl 0 rfl) ?_
  refine va_get (D := G) (ci := 8) (v := .ref aS) (C := RX7) (T := TX7) (N := 7) hx hb hts hiX7 hown hK hP pv hv rfl 0 (by decide) (hts (.fieldLink RX7 10 "Vortexpin" "samples" "Ljava/util/ArrayList;") (List.mem_of_getElem? (i := 1) rfl)) (fun _ h9 => h9) rfl dX7_set_2 ?_
  obtain ⟨mosz5, aesz5, hLsz5⟩ := lsL_cell hS9
  refine vp_callSi (va_Run.run (va_runV (As := []) (rest := [.int x]) ⟨hx, hb, hml, hown, hts⟩ (metSize l G tys _ hS9) (cwV 0 hts gX7_set_Jx4a65c_size_8abf5 rfl rfl rfl (by decide +kernel) ⟨Nat.le_of_ble_eq_true rfl, Nat.le_of_ble_eq_true rfl⟩) ⟨pcR_b, va_recv hK hP (ci := 0) (q0 := pS) rfl hLsz5, pcR_u hP hK⟩ rfl rfl hl.1 rfl (lv_room (Nat.le_of_ble_eq_true rfl)) dX7_set_5 ⟨Nat.le_of_ble_eq_true rfl, Nat.le_of_ble_eq_true rfl⟩)) (fun r5 h5 => ?_)
  subst h5
  refine ref_step (vx_runS (As := [.int x, .int (nI nS)]) (rest := []) ⟨hx, hb, hml, hown, hts⟩ (metX7_refuseUnknown l hnt x (nI nS)) (va_cwS 2 hts gX7_set_X7_refuseUnknown rfl rfl rfl (by decide +kernel) ⟨Nat.le_of_ble_eq_true rfl, Nat.le_of_ble_eq_true rfl⟩) ⟨pcE_b, pcE_u hE hS hA⟩ rfl rfl hl.1 rfl (lv_room (Nat.le_of_ble_eq_true rfl)) dX7_set_8 ⟨Nat.le_of_ble_eq_true rfl, Nat.le_of_ble_eq_true rfl⟩) hno hlocks hS hO hP (fun hbd => Or.inl ⟨by unfold cdSet; rw [if_pos hbd], rfl⟩) (Nat.le_of_ble_eq_true rfl) (Nat.le_of_ble_eq_true rfl) (fun k0 H locs hS hO hP => ?_)
  have hs := hSm x.toNatClampNeg (uK_ix k0).2
  refine lv_iload_n hx hb dX7_set_11 rfl (lv_at hl 2 rfl) ?_
  refine lv_iconst (v := 0) hx hb dX7_set_12 (by decide) ?_
  refine lv_sipush (v := 300) hx hb dX7_set_13 (by decide) ?_
  refine ref_step (vx_runS (As := [.int tm, .int (0 : Int32), .int (300 : Int32)]) (rest := []) ⟨hx, hb, hml, hown, hts⟩ (metX7_refuseOutside l hnt tm (0 : Int32) (300 : Int32)) (va_cwS 3 hts gX7_set_X7_refuseOutside rfl rfl rfl (by decide +kernel) ⟨Nat.le_of_ble_eq_true rfl, Nat.le_of_ble_eq_true rfl⟩) ⟨pcE_b, pcE_u hE hS hA⟩ rfl rfl hl.1 rfl (lv_room (Nat.le_of_ble_eq_true rfl)) dX7_set_16 ⟨Nat.le_of_ble_eq_true rfl, Nat.le_of_ble_eq_true rfl⟩) hno hlocks hS hO hP (fun hbd => Or.inr (Or.inl ⟨by unfold cdSet; rw [if_neg k0, if_pos hbd], rfl⟩)) (Nat.le_of_ble_eq_true rfl) (Nat.le_of_ble_eq_true rfl) (fun k1 H locs hS hO hP => ?_)
  refine lv_iload_n hx hb dX7_set_19 rfl (lv_at hl 3 rfl) ?_
  refine lv_sipush (v := -1000) hx hb dX7_set_20 (by decide) ?_
  refine lv_sipush (v := 1000) hx hb dX7_set_23 (by decide) ?_
  refine ref_step (vx_runS (As := [.int f, .int (-1000 : Int32), .int (1000 : Int32)]) (rest := []) ⟨hx, hb, hml, hown, hts⟩ (metX7_refuseOutside l hnt f (-1000 : Int32) (1000 : Int32)) (va_cwS 3 hts gX7_set_X7_refuseOutside rfl rfl rfl (by decide +kernel) ⟨Nat.le_of_ble_eq_true rfl, Nat.le_of_ble_eq_true rfl⟩) ⟨pcE_b, pcE_u hE hS hA⟩ rfl rfl hl.1 rfl (lv_room (Nat.le_of_ble_eq_true rfl)) dX7_set_26 ⟨Nat.le_of_ble_eq_true rfl, Nat.le_of_ble_eq_true rfl⟩) hno hlocks hS hO hP (fun hbd => Or.inr (Or.inl ⟨by unfold cdSet; rw [if_neg k0, if_neg k1, if_pos hbd], rfl⟩)) (Nat.le_of_ble_eq_true rfl) (Nat.le_of_ble_eq_true rfl) (fun k2 H locs hS hO hP => ?_)
  refine lv_aload_n hx hb dX7_set_29 rfl (lv_at hl 0 rfl) ?_
  refine va_get (D := G) (ci := 8) (v := .ref aS) (C := RX7) (T := TX7) (N := 7) hx hb hts hiX7 hown hK hP pv hv rfl 0 (by decide) (hts (.fieldLink RX7 10 "Vortexpin" "samples" "Ljava/util/ArrayList;") (List.mem_of_getElem? (i := 1) rfl)) (fun _ h9 => h9) rfl dX7_set_30 ?_
  refine lv_iload_n hx hb dX7_set_33 rfl (lv_at hl 1 rfl) ?_
  obtain ⟨mogt34, aegt34, hLgt34⟩ := lsL_cell hS9
  refine va_csq (va_Run.run (va_runV (As := [.int x]) (rest := []) ⟨hx, hb, hml, hown, hts⟩ (metGet l G tys _ htO hS9 x k0) (cwV 1 hts gX7_set_Jx4a65c_get_915e3 rfl rfl rfl (by decide +kernel) ⟨Nat.le_of_ble_eq_true rfl, Nat.le_of_ble_eq_true rfl⟩) ⟨pcR_b, va_recv hK hP (ci := 0) (q0 := pS) rfl hLgt34, pcR_u hP hK⟩ rfl rfl hl.1 rfl (lv_room (Nat.le_of_ble_eq_true rfl)) dX7_set_34 ⟨Nat.le_of_ble_eq_true rfl, Nat.le_of_ble_eq_true rfl⟩)) (fun r34 h34 => ?_)
  refine rf_q h34 ?_
  refine va_castE hx hb hown (hts (.classLink RX7 58 "Vortexpin$Sample") (List.mem_of_getElem? (i := 2) rfl)) (va_recv hK hP (ci := 7) (q0 := (gS x.toNatClampNeg)) rfl hs) dX7_set_37 ?_
  refine lv_astore (lv' := [(4, .ref (eS x.toNatClampNeg)), (0, .ref v), (1, .int x), (2, .int tm), (3, .int f)]) hx hb dX7_set_40 hl (by decide) rfl (fun ls hl => ?_)
  refine lv_aload hx hb dX7_set_42 (lv_at hl 0 rfl) ?_
  refine lv_iload_n hx hb dX7_set_44 rfl (lv_at hl 3 rfl) ?_
  refine va_put (D := G) (ci := 7) (v := .int tm) (ty := .int) (C := RX6) (T := TX6) (N := 5) hx hb hts hiX6 tyX6 tyX6_ok nmX6 hown hK hP hD hS (gS x.toNatClampNeg) hs rfl 3 (by decide) (hts (.fieldLink RX7 73 "Vortexpin$Sample" "temperature" "I") (List.mem_of_getElem? (i := 3) rfl)) (fun _ h9 => h9) rfl (by decide +kernel) (rfl) (rfl) (Nat.le_of_ble_eq_true rfl) dX7_set_45 (fun H locs hP hD hS => ?_)
  have hv := va_gs (k := (gS x.toNatClampNeg)) (e := (eS x.toNatClampNeg, .inr (7, [.int (sc x.toNatClampNeg), .int (sl x.toNatClampNeg), .int (su x.toNatClampNeg), .int tm, .int (sf x.toNatClampNeg)]))) (ne_oo hv hs (by decide)) hv
  have hs := va_ge (e := (eS x.toNatClampNeg, .inr (7, [.int (sc x.toNatClampNeg), .int (sl x.toNatClampNeg), .int (su x.toNatClampNeg), .int tm, .int (sf x.toNatClampNeg)]))) hs
  refine lv_aload hx hb dX7_set_48 (lv_at hl 0 rfl) ?_
  refine lv_iload_n hx hb dX7_set_50 rfl (lv_at hl 4 rfl) ?_
  refine va_put (D := G) (ci := 7) (v := .int f) (ty := .int) (C := RX6) (T := TX6) (N := 5) hx hb hts hiX6 tyX6 tyX6_ok nmX6 hown hK hP hD hS (gS x.toNatClampNeg) hs rfl 4 (by decide) (hts (.fieldLink RX7 77 "Vortexpin$Sample" "field" "I") (List.mem_of_getElem? (i := 4) rfl)) (fun _ h9 => h9) rfl (by decide +kernel) (rfl) (rfl) (Nat.le_of_ble_eq_true rfl) dX7_set_51 (fun H locs hP hD hS => ?_)
  have hv := va_gs (k := (gS x.toNatClampNeg)) (e := (eS x.toNatClampNeg, .inr (7, [.int (sc x.toNatClampNeg), .int (sl x.toNatClampNeg), .int (su x.toNatClampNeg), .int tm, .int f]))) (ne_oo hv hs (by decide)) hv
  have hs := va_ge (e := (eS x.toNatClampNeg, .inr (7, [.int (sc x.toNatClampNeg), .int (sl x.toNatClampNeg), .int (su x.toNatClampNeg), .int tm, .int f]))) hs
  refine lv_aload hx hb dX7_set_54 (lv_at hl 0 rfl) ?_
  refine vp_callSi (va_Run.run (va_runV (As := []) (rest := []) ⟨hx, hb, hml, hown, hts⟩ (metX6_phase l G tys _ hs) (cwV 0 hts gX7_set_X6_phase rfl rfl rfl (by decide +kernel) ⟨Nat.le_of_ble_eq_true rfl, Nat.le_of_ble_eq_true rfl⟩) ⟨pcR_b, va_recv hK hP (ci := 7) (q0 := (gS x.toNatClampNeg)) rfl hs, pcR_u hP hK⟩ rfl rfl hl.1 rfl (lv_room (Nat.le_of_ble_eq_true rfl)) dX7_set_56 ⟨Nat.le_of_ble_eq_true rfl, Nat.le_of_ble_eq_true rfl⟩)) (fun r56 h56 => ?_)
  refine W.widen (k := 3) (n := 18) (Nat.le_of_ble_eq_true rfl) (Nat.le_of_ble_eq_true rfl) (vx_ret ?_)
  have ew : ((ws).set (gS x.toNatClampNeg) (eS x.toNatClampNeg, .inr (7, [.int (sc x.toNatClampNeg), .int (sl x.toNatClampNeg), .int (su x.toNatClampNeg), .int tm, .int (sf x.toNatClampNeg)]))).set (gS x.toNatClampNeg) (eS x.toNatClampNeg, .inr (7, [.int (sc x.toNatClampNeg), .int (sl x.toNatClampNeg), .int (su x.toNatClampNeg), .int tm, .int f])) = ws.set (gS x.toNatClampNeg) (eS x.toNatClampNeg, .inr (7, [.int (sc x.toNatClampNeg), .int (sl x.toNatClampNeg), .int (su x.toNatClampNeg), .int tm, .int f])) := by subst h56; simp only [List.set_set, ↓reduceIte, not_true_eq_false, not_false_eq_true]
  have hP : va_P G vwCl (((ws).set (gS x.toNatClampNeg) (eS x.toNatClampNeg, .inr (7, [.int (sc x.toNatClampNeg), .int (sl x.toNatClampNeg), .int (su x.toNatClampNeg), .int tm, .int (sf x.toNatClampNeg)]))).set (gS x.toNatClampNeg) (eS x.toNatClampNeg, .inr (7, [.int (sc x.toNatClampNeg), .int (sl x.toNatClampNeg), .int (su x.toNatClampNeg), .int tm, .int f]))) H := hP
  have hD : va_D A (((ws).set (gS x.toNatClampNeg) (eS x.toNatClampNeg, .inr (7, [.int (sc x.toNatClampNeg), .int (sl x.toNatClampNeg), .int (su x.toNatClampNeg), .int tm, .int (sf x.toNatClampNeg)]))).set (gS x.toNatClampNeg) (eS x.toNatClampNeg, .inr (7, [.int (sc x.toNatClampNeg), .int (sl x.toNatClampNeg), .int (su x.toNatClampNeg), .int tm, .int f]))) := hD
  rw [ew] at hP hD
  exact W.iret (v := r56) hx hb hr (fun t ht hW => ⟨⟨r56, (), rfl, ⟨by unfold cdSet; rw [if_neg k0, if_neg k1, if_neg k2], h56⟩, by show va_P G vwCl _ t.heap ∧ va_D A _; rw [ht]; exact ⟨hP, hD⟩⟩, hS.F ht⟩) hS.2.2 dX7_set_59
set_option maxHeartbeats 4000000 in
set_option maxRecDepth 100000 in
theorem metX7_deep (l : Launch) (hnt : l.stackTraces = false) (G : va_G) (tys : List (ClassId × FieldType)) {A : Nat → Prop} {tE mi : Nat} (ws : va_W) {cO : ClassId} (htO : tO tys cO) {pv v aS af aR ao ak aP aC : Nat} (hv : ws[pv]? = some (v, .inr (8, [.ref aS, .ref af, .ref aR, .ref ao, .ref ak, .ref aP, .ref aC]))) {pS qS nS : Nat} {eS : Nat → Nat} (hS9 : lsL ws tE cO pS aS nS eS qS) {gS : Nat → Nat} {sc sl su st sf : Nat → Int32} (hSm : ∀ i, i < nS → ws[gS i]? = some (eS i, .inr (7, [.int (sc i), .int (sl i), .int (su i), .int (st i), .int (sf i)]))) (x : Int32) (hc0 : ∀ i, i < nS → ¬ sc i = 0) : vx_Met l yX7_deep wsX7_deep { frames := 7, cells := 1, slots := 6, locals := 103 } (pcX G tys ws A tE mi [.ref v, .int x]) (va_Qd (fun (r : UInt64) (_ : Unit) => cdOne x (nI nS) = 0 ∧ r = sDeep (sc x.toNatClampNeg) (st x.toNatClampNeg)) (fun _ t => va_P G vwCl (ws) t.heap ∧ va_D A (ws)) A) (xcT (fun E => xC (cdOne x (nI nS)) eIB "" "" E)) 1 6 A := by
  refine ofX (cc := cX7_deep) (maxL := 2) (ret := some .double) (by decide) rfl (Nat.le_of_ble_eq_true rfl) ?_
  intro p e s m below meth c ls hx hb hr hlocks hml hown hts hno hl hP hK hD hA hS hE
  have hown : s.vm.findClass RX7 = some m.cls := hown
  have hiX7 : ∀ w ∈ u_ws RX7 TX7 7, w ∈ wsX7_deep := fun _ h => List.mem_cons_of_mem _ (List.mem_append_left _ (List.mem_append_left _ (List.mem_append_left _ (List.mem_append_right _ h))))
  have hl : lv_has ls 2 [(0, .ref v), (1, .int x)] := hl
  have hO : okO s s.heap := ⟨Nat.le_refl _, fun _ _ => rfl⟩
  refine lv_iload_n hx hb dX7_deep_0 rfl (lv_at hl 1 rfl) ?_
  refine lv_aload_n hx hb dX7_deep_1 rfl (lv_at hl 0 rfl) ?_
  refine va_get (D := G) (ci := 8) (v := .ref aS) (C := RX7) (T := TX7) (N := 7) hx hb hts hiX7 hown hK hP pv hv rfl 0 (by decide) (hts (.fieldLink RX7 10 "Vortexpin" "samples" "Ljava/util/ArrayList;") (List.mem_of_getElem? (i := 1) rfl)) (fun _ h9 => h9) rfl dX7_deep_2 ?_
  obtain ⟨mosz5, aesz5, hLsz5⟩ := lsL_cell hS9
  refine vp_callSi (va_Run.run (va_runV (As := []) (rest := [.int x]) ⟨hx, hb, hml, hown, hts⟩ (metSize l G tys _ hS9) (cwV 0 hts gX7_deep_Jx4a65c_size_8abf5 rfl rfl rfl (by decide +kernel) ⟨Nat.le_of_ble_eq_true rfl, Nat.le_of_ble_eq_true rfl⟩) ⟨pcR_b, va_recv hK hP (ci := 0) (q0 := pS) rfl hLsz5, pcR_u hP hK⟩ rfl rfl hl.1 rfl (lv_room (Nat.le_of_ble_eq_true rfl)) dX7_deep_5 ⟨Nat.le_of_ble_eq_true rfl, Nat.le_of_ble_eq_true rfl⟩)) (fun r5 h5 => ?_)
  subst h5
  refine ref_step (vx_runS (As := [.int x, .int (nI nS)]) (rest := []) ⟨hx, hb, hml, hown, hts⟩ (metX7_refuseUnknown l hnt x (nI nS)) (va_cwS 2 hts gX7_deep_X7_refuseUnknown rfl rfl rfl (by decide +kernel) ⟨Nat.le_of_ble_eq_true rfl, Nat.le_of_ble_eq_true rfl⟩) ⟨pcE_b, pcE_u hE hS hA⟩ rfl rfl hl.1 rfl (lv_room (Nat.le_of_ble_eq_true rfl)) dX7_deep_8 ⟨Nat.le_of_ble_eq_true rfl, Nat.le_of_ble_eq_true rfl⟩) hno hlocks hS hO hP (fun hbd => Or.inl ⟨by unfold cdOne; rw [if_pos hbd], rfl⟩) (Nat.le_of_ble_eq_true rfl) (Nat.le_of_ble_eq_true rfl) (fun k0 H locs hS hO hP => ?_)
  have hs := hSm x.toNatClampNeg (uK_ix k0).2; have hcr := hc0 x.toNatClampNeg (uK_ix k0).2
  refine lv_aload_n hx hb dX7_deep_11 rfl (lv_at hl 0 rfl) ?_
  refine va_get (D := G) (ci := 8) (v := .ref aS) (C := RX7) (T := TX7) (N := 7) hx hb hts hiX7 hown hK hP pv hv rfl 0 (by decide) (hts (.fieldLink RX7 10 "Vortexpin" "samples" "Ljava/util/ArrayList;") (List.mem_of_getElem? (i := 1) rfl)) (fun _ h9 => h9) rfl dX7_deep_12 ?_
  refine lv_iload_n hx hb dX7_deep_15 rfl (lv_at hl 1 rfl) ?_
  obtain ⟨mogt16, aegt16, hLgt16⟩ := lsL_cell hS9
  refine va_csq (va_Run.run (va_runV (As := [.int x]) (rest := []) ⟨hx, hb, hml, hown, hts⟩ (metGet l G tys _ htO hS9 x k0) (cwV 1 hts gX7_deep_Jx4a65c_get_915e3 rfl rfl rfl (by decide +kernel) ⟨Nat.le_of_ble_eq_true rfl, Nat.le_of_ble_eq_true rfl⟩) ⟨pcR_b, va_recv hK hP (ci := 0) (q0 := pS) rfl hLgt16, pcR_u hP hK⟩ rfl rfl hl.1 rfl (lv_room (Nat.le_of_ble_eq_true rfl)) dX7_deep_16 ⟨Nat.le_of_ble_eq_true rfl, Nat.le_of_ble_eq_true rfl⟩)) (fun r16 h16 => ?_)
  refine rf_q h16 ?_
  refine va_castE hx hb hown (hts (.classLink RX7 58 "Vortexpin$Sample") (List.mem_of_getElem? (i := 2) rfl)) (va_recv hK hP (ci := 7) (q0 := (gS x.toNatClampNeg)) rfl hs) dX7_deep_19 ?_
  refine vp_callSd (va_Run.run (va_runV (As := []) (rest := []) ⟨hx, hb, hml, hown, hts⟩ (metX6_penetration l G tys _ hs hcr (fun _ => sOK_all hcr _)) (cwV 0 hts gX7_deep_X6_penetration rfl rfl rfl (by decide +kernel) ⟨Nat.le_of_ble_eq_true rfl, Nat.le_of_ble_eq_true rfl⟩) ⟨pcR_b, va_recv hK hP (ci := 7) (q0 := (gS x.toNatClampNeg)) rfl hs, pcR_u hP hK⟩ rfl rfl hl.1 rfl (lv_room (Nat.le_of_ble_eq_true rfl)) dX7_deep_22 ⟨Nat.le_of_ble_eq_true rfl, Nat.le_of_ble_eq_true rfl⟩)) (fun r22 h22 => ?_)
  refine W.widen (k := 1) (n := 6) (Nat.le_of_ble_eq_true rfl) (Nat.le_of_ble_eq_true rfl) (vx_ret ?_)
  exact W.dret (v := r22) hx hb hr (fun t ht hW => ⟨⟨r22, (), rfl, ⟨by unfold cdOne; rw [if_neg k0], h22⟩, by show va_P G vwCl _ t.heap ∧ va_D A _; rw [ht]; exact ⟨hP, hD⟩⟩, hS.F ht⟩) hS.2.2 dX7_deep_25
set_option maxHeartbeats 4000000 in
set_option maxRecDepth 100000 in
theorem metX7_flux (l : Launch) (hnt : l.stackTraces = false) (G : va_G) (tys : List (ClassId × FieldType)) {A : Nat → Prop} {tE mi : Nat} (ws : va_W) {cO : ClassId} (htO : tO tys cO) {pv v aS af aR ao ak aP aC : Nat} (hv : ws[pv]? = some (v, .inr (8, [.ref aS, .ref af, .ref aR, .ref ao, .ref ak, .ref aP, .ref aC]))) {pR qR nR : Nat} {eR : Nat → Nat} (hR9 : lsL ws tE cO pR aR nR eR qR) {gR : Nat → Nat} {ri rc rf rn rs : Nat → Int32} (hRg : ∀ i, i < nR → ws[gR i]? = some (eR i, .inr (6, [.int (ri i), .int (rc i), .int (rf i), .int (rn i), .int (rs i)]))) (x f : Int32) (hterm : ¬ uK x (nI nR) → ∃ j, j < 1000000 ∧ rStop (ri x.toNatClampNeg) (rc x.toNatClampNeg) f (rIt (ri x.toNatClampNeg) f (rn x.toNatClampNeg) j)) : vx_Met l yX7_flux wsX7_flux { frames := 7, cells := 2, slots := 12, locals := 104 } (pcX G tys ws A tE mi [.ref v, .int x, .int f]) (va_Qi (fun (r : Int32) (u : Nat) => cdFlux x f (nI nR) = 0 ∧ r = rIt (ri x.toNatClampNeg) f (rn x.toNatClampNeg) u - rn x.toNatClampNeg ∧ rStop (ri x.toNatClampNeg) (rc x.toNatClampNeg) f (rIt (ri x.toNatClampNeg) f (rn x.toNatClampNeg) u) ∧ ∀ j, j < u → ¬ rStop (ri x.toNatClampNeg) (rc x.toNatClampNeg) f (rIt (ri x.toNatClampNeg) f (rn x.toNatClampNeg) j)) (fun u t => va_P G vwCl (ws.set (gR x.toNatClampNeg) (eR x.toNatClampNeg, .inr (6, [.int (ri x.toNatClampNeg), .int (rc x.toNatClampNeg), .int f, .int (rIt (ri x.toNatClampNeg) f (rn x.toNatClampNeg) u), .int (rs x.toNatClampNeg + nI u)]))) t.heap ∧ va_D A (ws.set (gR x.toNatClampNeg) (eR x.toNatClampNeg, .inr (6, [.int (ri x.toNatClampNeg), .int (rc x.toNatClampNeg), .int f, .int (rIt (ri x.toNatClampNeg) f (rn x.toNatClampNeg) u), .int (rs x.toNatClampNeg + nI u)])))) A) (xcT (fun E => xC (cdFlux x f (nI nR)) eIB eIA "" E)) 2 12 A := by
  refine ofX (cc := cX7_flux) (maxL := 4) (ret := some .int) (by decide) rfl (Nat.le_of_ble_eq_true rfl) ?_
  intro p e s m below meth c ls hx hb hr hlocks hml hown hts hno hl hP hK hD hA hS hE
  have hown : s.vm.findClass RX7 = some m.cls := hown
  have hiX5 : ∀ w ∈ u_ws RX5 TX5 5, w ∈ wsX7_flux := fun _ h => List.mem_cons_of_mem _ (List.mem_append_left _ (List.mem_append_left _ (List.mem_append_left _ (List.mem_append_right _ h))))
  have hiX7 : ∀ w ∈ u_ws RX7 TX7 7, w ∈ wsX7_flux := fun _ h => List.mem_cons_of_mem _ (List.mem_append_left _ (List.mem_append_left _ (List.mem_append_left _ (List.mem_append_left _ (List.mem_append_right _ h)))))
  have hl : lv_has ls 4 [(0, .ref v), (1, .int x), (2, .int f)] := hl
  have hO : okO s s.heap := ⟨Nat.le_refl _, fun _ _ => rfl⟩
  refine lv_iload_n hx hb dX7_flux_0 rfl (lv_at hl 1 rfl) ?_
  refine lv_aload_n hx hb dX7_flux_1 rfl (lv_at hl 0 rfl) ?_
  refine va_get (D := G) (ci := 8) (v := .ref aR) (C := RX7) (T := TX7) (N := 7) hx hb hts hiX7 hown hK hP pv hv rfl 2 (by decide) (hts (.fieldLink RX7 23 "Vortexpin" "rings" "Ljava/util/ArrayList;") (List.mem_of_getElem? (i := 1) rfl)) (fun _ h9 => h9) rfl dX7_flux_2 ?_
  obtain ⟨mosz5, aesz5, hLsz5⟩ := lsL_cell hR9
  refine vp_callSi (va_Run.run (va_runV (As := []) (rest := [.int x]) ⟨hx, hb, hml, hown, hts⟩ (metSize l G tys _ hR9) (cwV 0 hts gX7_flux_Jx4a65c_size_8abf5 rfl rfl rfl (by decide +kernel) ⟨Nat.le_of_ble_eq_true rfl, Nat.le_of_ble_eq_true rfl⟩) ⟨pcR_b, va_recv hK hP (ci := 0) (q0 := pR) rfl hLsz5, pcR_u hP hK⟩ rfl rfl hl.1 rfl (lv_room (Nat.le_of_ble_eq_true rfl)) dX7_flux_5 ⟨Nat.le_of_ble_eq_true rfl, Nat.le_of_ble_eq_true rfl⟩)) (fun r5 h5 => ?_)
  subst h5
  refine ref_step (vx_runS (As := [.int x, .int (nI nR)]) (rest := []) ⟨hx, hb, hml, hown, hts⟩ (metX7_refuseUnknown l hnt x (nI nR)) (va_cwS 2 hts gX7_flux_X7_refuseUnknown rfl rfl rfl (by decide +kernel) ⟨Nat.le_of_ble_eq_true rfl, Nat.le_of_ble_eq_true rfl⟩) ⟨pcE_b, pcE_u hE hS hA⟩ rfl rfl hl.1 rfl (lv_room (Nat.le_of_ble_eq_true rfl)) dX7_flux_8 ⟨Nat.le_of_ble_eq_true rfl, Nat.le_of_ble_eq_true rfl⟩) hno hlocks hS hO hP (fun hbd => Or.inl ⟨by unfold cdFlux; rw [if_pos hbd], rfl⟩) (Nat.le_of_ble_eq_true rfl) (Nat.le_of_ble_eq_true rfl) (fun k0 H locs hS hO hP => ?_)
  have hs := hRg x.toNatClampNeg (uK_ix k0).2; have hterm := hterm k0
  refine lv_iload_n hx hb dX7_flux_11 rfl (lv_at hl 2 rfl) ?_
  refine lv_ldc (v := -1000000) hx hb hown (hts (.constant RX7 121 (-1000000)) (List.mem_of_getElem? (i := 2) rfl)) dX7_flux_12 ?_
  refine lv_ldc (v := 1000000) hx hb hown (hts (.constant RX7 122 (1000000)) (List.mem_of_getElem? (i := 3) rfl)) dX7_flux_14 ?_
  refine ref_step (vx_runS (As := [.int f, .int (-1000000 : Int32), .int (1000000 : Int32)]) (rest := []) ⟨hx, hb, hml, hown, hts⟩ (metX7_refuseOutside l hnt f (-1000000 : Int32) (1000000 : Int32)) (va_cwS 3 hts gX7_flux_X7_refuseOutside rfl rfl rfl (by decide +kernel) ⟨Nat.le_of_ble_eq_true rfl, Nat.le_of_ble_eq_true rfl⟩) ⟨pcE_b, pcE_u hE hS hA⟩ rfl rfl hl.1 rfl (lv_room (Nat.le_of_ble_eq_true rfl)) dX7_flux_16 ⟨Nat.le_of_ble_eq_true rfl, Nat.le_of_ble_eq_true rfl⟩) hno hlocks hS hO hP (fun hbd => Or.inr (Or.inl ⟨by unfold cdFlux; rw [if_neg k0, if_pos hbd], rfl⟩)) (Nat.le_of_ble_eq_true rfl) (Nat.le_of_ble_eq_true rfl) (fun k1 H locs hS hO hP => ?_)
  refine lv_aload_n hx hb dX7_flux_19 rfl (lv_at hl 0 rfl) ?_
  refine va_get (D := G) (ci := 8) (v := .ref aR) (C := RX7) (T := TX7) (N := 7) hx hb hts hiX7 hown hK hP pv hv rfl 2 (by decide) (hts (.fieldLink RX7 23 "Vortexpin" "rings" "Ljava/util/ArrayList;") (List.mem_of_getElem? (i := 1) rfl)) (fun _ h9 => h9) rfl dX7_flux_20 ?_
  refine lv_iload_n hx hb dX7_flux_23 rfl (lv_at hl 1 rfl) ?_
  obtain ⟨mogt24, aegt24, hLgt24⟩ := lsL_cell hR9
  refine va_csq (va_Run.run (va_runV (As := [.int x]) (rest := []) ⟨hx, hb, hml, hown, hts⟩ (metGet l G tys _ htO hR9 x k0) (cwV 1 hts gX7_flux_Jx4a65c_get_915e3 rfl rfl rfl (by decide +kernel) ⟨Nat.le_of_ble_eq_true rfl, Nat.le_of_ble_eq_true rfl⟩) ⟨pcR_b, va_recv hK hP (ci := 0) (q0 := pR) rfl hLgt24, pcR_u hP hK⟩ rfl rfl hl.1 rfl (lv_room (Nat.le_of_ble_eq_true rfl)) dX7_flux_24 ⟨Nat.le_of_ble_eq_true rfl, Nat.le_of_ble_eq_true rfl⟩)) (fun r24 h24 => ?_)
  refine rf_q h24 ?_
  refine va_castE hx hb hown (hts (.classLink RX7 117 "Vortexpin$Ring") (List.mem_of_getElem? (i := 4) rfl)) (va_recv hK hP (ci := 6) (q0 := (gR x.toNatClampNeg)) rfl hs) dX7_flux_27 ?_
  refine lv_astore_n (lv' := [(3, .ref (eR x.toNatClampNeg)), (0, .ref v), (1, .int x), (2, .int f)]) hx hb dX7_flux_30 rfl hl (by decide) rfl (fun ls hl => ?_)
  refine lv_aload_n hx hb dX7_flux_31 rfl (lv_at hl 0 rfl) ?_
  refine lv_iload_n hx hb dX7_flux_32 rfl (lv_at hl 3 rfl) ?_
  refine va_put (D := G) (ci := 6) (v := .int f) (ty := .int) (C := RX5) (T := TX5) (N := 5) hx hb hts hiX5 tyX5 tyX5_ok nmX5 hown hK hP hD hS (gR x.toNatClampNeg) hs rfl 2 (by decide) (hts (.fieldLink RX7 123 "Vortexpin$Ring" "flux" "I") (List.mem_of_getElem? (i := 5) rfl)) (fun _ h9 => h9) rfl (by decide +kernel) (rfl) (rfl) (Nat.le_of_ble_eq_true rfl) dX7_flux_33 (fun H locs hP hD hS => ?_)
  have hv := va_gs (k := (gR x.toNatClampNeg)) (e := (eR x.toNatClampNeg, .inr (6, [.int (ri x.toNatClampNeg), .int (rc x.toNatClampNeg), .int f, .int (rn x.toNatClampNeg), .int (rs x.toNatClampNeg)]))) (ne_oo hv hs (by decide)) hv
  have hs := va_ge (e := (eR x.toNatClampNeg, .inr (6, [.int (ri x.toNatClampNeg), .int (rc x.toNatClampNeg), .int f, .int (rn x.toNatClampNeg), .int (rs x.toNatClampNeg)]))) hs
  refine lv_aload_n hx hb dX7_flux_36 rfl (lv_at hl 0 rfl) ?_
  refine va_calli (va_runV (As := []) (rest := []) ⟨hx, hb, hml, hown, hts⟩ (metX5_settle l G tys _ hs hterm) (cwV 0 hts gX7_flux_X5_settle rfl rfl rfl (by decide +kernel) ⟨Nat.le_of_ble_eq_true rfl, Nat.le_of_ble_eq_true rfl⟩) ⟨pcM_b, va_recv hK hP (ci := 6) (q0 := (gR x.toNatClampNeg)) rfl hs, pcM_u hP hK hD hS hA⟩ rfl rfl hl.1 rfl (lv_room (Nat.le_of_ble_eq_true rfl)) dX7_flux_37 ⟨Nat.le_of_ble_eq_true rfl, Nat.le_of_ble_eq_true rfl⟩) hS (fun q _ h => h) (fun q h => h) (fun r37 u t H locs ht hvm h37 hB hsz hk1 hS => ?_)
  rw [ht] at hB
  have hD := hD.set (e := .inr (6, [.int (ri x.toNatClampNeg), .int (rc x.toNatClampNeg), .int f, .int (rIt (ri x.toNatClampNeg) f (rn x.toNatClampNeg) u), .int (rs x.toNatClampNeg + nI u)])) hs
  have hv := va_gs (k := (gR x.toNatClampNeg)) (e := (eR x.toNatClampNeg, .inr (6, [.int (ri x.toNatClampNeg), .int (rc x.toNatClampNeg), .int f, .int (rIt (ri x.toNatClampNeg) f (rn x.toNatClampNeg) u), .int (rs x.toNatClampNeg + nI u)]))) (ne_oo hv hs (by decide)) hv
  have hs := va_ge (e := (eR x.toNatClampNeg, .inr (6, [.int (ri x.toNatClampNeg), .int (rc x.toNatClampNeg), .int f, .int (rIt (ri x.toNatClampNeg) f (rn x.toNatClampNeg) u), .int (rs x.toNatClampNeg + nI u)]))) hs
  have hP : va_P G vwCl (((ws).set (gR x.toNatClampNeg) (eR x.toNatClampNeg, .inr (6, [.int (ri x.toNatClampNeg), .int (rc x.toNatClampNeg), .int f, .int (rn x.toNatClampNeg), .int (rs x.toNatClampNeg)]))).set (gR x.toNatClampNeg) (eR x.toNatClampNeg, .inr (6, [.int (ri x.toNatClampNeg), .int (rc x.toNatClampNeg), .int f, .int (rIt (ri x.toNatClampNeg) f (rn x.toNatClampNeg) u), .int (rs x.toNatClampNeg + nI u)]))) H := hB
  have hD : va_D A (((ws).set (gR x.toNatClampNeg) (eR x.toNatClampNeg, .inr (6, [.int (ri x.toNatClampNeg), .int (rc x.toNatClampNeg), .int f, .int (rn x.toNatClampNeg), .int (rs x.toNatClampNeg)]))).set (gR x.toNatClampNeg) (eR x.toNatClampNeg, .inr (6, [.int (ri x.toNatClampNeg), .int (rc x.toNatClampNeg), .int f, .int (rIt (ri x.toNatClampNeg) f (rn x.toNatClampNeg) u), .int (rs x.toNatClampNeg + nI u)]))) := hD
  refine W.widen (k := 2) (n := 12) (Nat.le_of_ble_eq_true rfl) (Nat.le_of_ble_eq_true rfl) (vx_ret ?_)
  have ew : ((ws).set (gR x.toNatClampNeg) (eR x.toNatClampNeg, .inr (6, [.int (ri x.toNatClampNeg), .int (rc x.toNatClampNeg), .int f, .int (rn x.toNatClampNeg), .int (rs x.toNatClampNeg)]))).set (gR x.toNatClampNeg) (eR x.toNatClampNeg, .inr (6, [.int (ri x.toNatClampNeg), .int (rc x.toNatClampNeg), .int f, .int (rIt (ri x.toNatClampNeg) f (rn x.toNatClampNeg) u), .int (rs x.toNatClampNeg + nI u)])) = ws.set (gR x.toNatClampNeg) (eR x.toNatClampNeg, .inr (6, [.int (ri x.toNatClampNeg), .int (rc x.toNatClampNeg), .int f, .int (rIt (ri x.toNatClampNeg) f (rn x.toNatClampNeg) u), .int (rs x.toNatClampNeg + nI u)])) := by simp only [List.set_set, ↓reduceIte, not_true_eq_false, not_false_eq_true]
  have hP : va_P G vwCl (((ws).set (gR x.toNatClampNeg) (eR x.toNatClampNeg, .inr (6, [.int (ri x.toNatClampNeg), .int (rc x.toNatClampNeg), .int f, .int (rn x.toNatClampNeg), .int (rs x.toNatClampNeg)]))).set (gR x.toNatClampNeg) (eR x.toNatClampNeg, .inr (6, [.int (ri x.toNatClampNeg), .int (rc x.toNatClampNeg), .int f, .int (rIt (ri x.toNatClampNeg) f (rn x.toNatClampNeg) u), .int (rs x.toNatClampNeg + nI u)]))) H := hP
  have hD : va_D A (((ws).set (gR x.toNatClampNeg) (eR x.toNatClampNeg, .inr (6, [.int (ri x.toNatClampNeg), .int (rc x.toNatClampNeg), .int f, .int (rn x.toNatClampNeg), .int (rs x.toNatClampNeg)]))).set (gR x.toNatClampNeg) (eR x.toNatClampNeg, .inr (6, [.int (ri x.toNatClampNeg), .int (rc x.toNatClampNeg), .int f, .int (rIt (ri x.toNatClampNeg) f (rn x.toNatClampNeg) u), .int (rs x.toNatClampNeg + nI u)]))) := hD
  rw [ew] at hP hD
  exact W.iret (v := r37) hx hb hr (fun t ht hW => ⟨⟨r37, u, rfl, ⟨by unfold cdFlux; rw [if_neg k0, if_neg k1], h37⟩, by show va_P G vwCl _ t.heap ∧ va_D A _; rw [ht]; exact ⟨hP, hD⟩⟩, hS.F ht⟩) hS.2.2 dX7_flux_40
set_option maxHeartbeats 4000000 in
set_option maxRecDepth 100000 in
theorem metX7_warm (l : Launch) (hnt : l.stackTraces = false) (G : va_G) (tys : List (ClassId × FieldType)) {A : Nat → Prop} {tE mi : Nat} (ws : va_W) {cO : ClassId} (htO : tO tys cO) {pv v aS af aR ao ak aP aC : Nat} (hv : ws[pv]? = some (v, .inr (8, [.ref aS, .ref af, .ref aR, .ref ao, .ref ak, .ref aP, .ref aC]))) {pR qR nR : Nat} {eR : Nat → Nat} (hR9 : lsL ws tE cO pR aR nR eR qR) {gR : Nat → Nat} {ri rc rf rn rs : Nat → Int32} (hRg : ∀ i, i < nR → ws[gR i]? = some (eR i, .inr (6, [.int (ri i), .int (rc i), .int (rf i), .int (rn i), .int (rs i)]))) (x : Int32) : vx_Met l yX7_warm wsX7_warm { frames := 7, cells := 1, slots := 6, locals := 103 } (pcX G tys ws A tE mi [.ref v, .int x]) (va_Qi (fun (r : Int32) (_ : Unit) => cdOne x (nI nR) = 0 ∧ r = jfd (rf x.toNatClampNeg + 500) 1000) (fun _ t => va_P G vwCl (ws.set (gR x.toNatClampNeg) (eR x.toNatClampNeg, .inr (6, [.int (ri x.toNatClampNeg), .int (rc x.toNatClampNeg), .int (rf x.toNatClampNeg), .int (jfd (rf x.toNatClampNeg + 500) 1000), .int (rs x.toNatClampNeg)]))) t.heap ∧ va_D A (ws.set (gR x.toNatClampNeg) (eR x.toNatClampNeg, .inr (6, [.int (ri x.toNatClampNeg), .int (rc x.toNatClampNeg), .int (rf x.toNatClampNeg), .int (jfd (rf x.toNatClampNeg + 500) 1000), .int (rs x.toNatClampNeg)])))) A) (xcT (fun E => xC (cdOne x (nI nR)) eIB "" "" E)) 1 6 A := by
  refine ofX (cc := cX7_warm) (maxL := 3) (ret := some .int) (by decide) rfl (Nat.le_of_ble_eq_true rfl) ?_
  intro p e s m below meth c ls hx hb hr hlocks hml hown hts hno hl hP hK hD hA hS hE
  have hown : s.vm.findClass RX7 = some m.cls := hown
  have hiX5 : ∀ w ∈ u_ws RX5 TX5 5, w ∈ wsX7_warm := fun _ h => List.mem_cons_of_mem _ (List.mem_append_left _ (List.mem_append_left _ (List.mem_append_right _ h)))
  have hiX7 : ∀ w ∈ u_ws RX7 TX7 7, w ∈ wsX7_warm := fun _ h => List.mem_cons_of_mem _ (List.mem_append_left _ (List.mem_append_left _ (List.mem_append_left _ (List.mem_append_right _ h))))
  have hl : lv_has ls 3 [(0, .ref v), (1, .int x)] := hl
  have hO : okO s s.heap := ⟨Nat.le_refl _, fun _ _ => rfl⟩
  refine lv_iload_n hx hb dX7_warm_0 rfl (lv_at hl 1 rfl) ?_
  refine lv_aload_n hx hb dX7_warm_1 rfl (lv_at hl 0 rfl) ?_
  refine va_get (D := G) (ci := 8) (v := .ref aR) (C := RX7) (T := TX7) (N := 7) hx hb hts hiX7 hown hK hP pv hv rfl 2 (by decide) (hts (.fieldLink RX7 23 "Vortexpin" "rings" "Ljava/util/ArrayList;") (List.mem_of_getElem? (i := 1) rfl)) (fun _ h9 => h9) rfl dX7_warm_2 ?_
  obtain ⟨mosz5, aesz5, hLsz5⟩ := lsL_cell hR9
  refine vp_callSi (va_Run.run (va_runV (As := []) (rest := [.int x]) ⟨hx, hb, hml, hown, hts⟩ (metSize l G tys _ hR9) (cwV 0 hts gX7_warm_Jx4a65c_size_8abf5 rfl rfl rfl (by decide +kernel) ⟨Nat.le_of_ble_eq_true rfl, Nat.le_of_ble_eq_true rfl⟩) ⟨pcR_b, va_recv hK hP (ci := 0) (q0 := pR) rfl hLsz5, pcR_u hP hK⟩ rfl rfl hl.1 rfl (lv_room (Nat.le_of_ble_eq_true rfl)) dX7_warm_5 ⟨Nat.le_of_ble_eq_true rfl, Nat.le_of_ble_eq_true rfl⟩)) (fun r5 h5 => ?_)
  subst h5
  refine ref_step (vx_runS (As := [.int x, .int (nI nR)]) (rest := []) ⟨hx, hb, hml, hown, hts⟩ (metX7_refuseUnknown l hnt x (nI nR)) (va_cwS 2 hts gX7_warm_X7_refuseUnknown rfl rfl rfl (by decide +kernel) ⟨Nat.le_of_ble_eq_true rfl, Nat.le_of_ble_eq_true rfl⟩) ⟨pcE_b, pcE_u hE hS hA⟩ rfl rfl hl.1 rfl (lv_room (Nat.le_of_ble_eq_true rfl)) dX7_warm_8 ⟨Nat.le_of_ble_eq_true rfl, Nat.le_of_ble_eq_true rfl⟩) hno hlocks hS hO hP (fun hbd => Or.inl ⟨by unfold cdOne; rw [if_pos hbd], rfl⟩) (Nat.le_of_ble_eq_true rfl) (Nat.le_of_ble_eq_true rfl) (fun k0 H locs hS hO hP => ?_)
  have hs := hRg x.toNatClampNeg (uK_ix k0).2
  refine lv_aload_n hx hb dX7_warm_11 rfl (lv_at hl 0 rfl) ?_
  refine va_get (D := G) (ci := 8) (v := .ref aR) (C := RX7) (T := TX7) (N := 7) hx hb hts hiX7 hown hK hP pv hv rfl 2 (by decide) (hts (.fieldLink RX7 23 "Vortexpin" "rings" "Ljava/util/ArrayList;") (List.mem_of_getElem? (i := 1) rfl)) (fun _ h9 => h9) rfl dX7_warm_12 ?_
  refine lv_iload_n hx hb dX7_warm_15 rfl (lv_at hl 1 rfl) ?_
  obtain ⟨mogt16, aegt16, hLgt16⟩ := lsL_cell hR9
  refine va_csq (va_Run.run (va_runV (As := [.int x]) (rest := []) ⟨hx, hb, hml, hown, hts⟩ (metGet l G tys _ htO hR9 x k0) (cwV 1 hts gX7_warm_Jx4a65c_get_915e3 rfl rfl rfl (by decide +kernel) ⟨Nat.le_of_ble_eq_true rfl, Nat.le_of_ble_eq_true rfl⟩) ⟨pcR_b, va_recv hK hP (ci := 0) (q0 := pR) rfl hLgt16, pcR_u hP hK⟩ rfl rfl hl.1 rfl (lv_room (Nat.le_of_ble_eq_true rfl)) dX7_warm_16 ⟨Nat.le_of_ble_eq_true rfl, Nat.le_of_ble_eq_true rfl⟩)) (fun r16 h16 => ?_)
  refine rf_q h16 ?_
  refine va_castE hx hb hown (hts (.classLink RX7 117 "Vortexpin$Ring") (List.mem_of_getElem? (i := 2) rfl)) (va_recv hK hP (ci := 6) (q0 := (gR x.toNatClampNeg)) rfl hs) dX7_warm_19 ?_
  refine lv_astore_n (lv' := [(2, .ref (eR x.toNatClampNeg)), (0, .ref v), (1, .int x)]) hx hb dX7_warm_22 rfl hl (by decide) rfl (fun ls hl => ?_)
  refine lv_aload_n hx hb dX7_warm_23 rfl (lv_at hl 0 rfl) ?_
  refine lv_aload_n hx hb dX7_warm_24 rfl (lv_at hl 0 rfl) ?_
  refine vp_callSi (va_Run.run (va_runV (As := []) (rest := [.ref (eR x.toNatClampNeg)]) ⟨hx, hb, hml, hown, hts⟩ (metX5_nearestNumber l G tys _ hs) (cwV 0 hts gX7_warm_X5_nearestNumber rfl rfl rfl (by decide +kernel) ⟨Nat.le_of_ble_eq_true rfl, Nat.le_of_ble_eq_true rfl⟩) ⟨pcR_b, va_recv hK hP (ci := 6) (q0 := (gR x.toNatClampNeg)) rfl hs, pcR_u hP hK⟩ rfl rfl hl.1 rfl (lv_room (Nat.le_of_ble_eq_true rfl)) dX7_warm_25 ⟨Nat.le_of_ble_eq_true rfl, Nat.le_of_ble_eq_true rfl⟩)) (fun r25 h25 => ?_)
  refine va_put (D := G) (ci := 6) (v := .int r25) (ty := .int) (C := RX5) (T := TX5) (N := 5) hx hb hts hiX5 tyX5 tyX5_ok nmX5 hown hK hP hD hS (gR x.toNatClampNeg) hs rfl 3 (by decide) (hts (.fieldLink RX7 132 "Vortexpin$Ring" "number" "I") (List.mem_of_getElem? (i := 3) rfl)) (fun _ h9 => h9) rfl (by decide +kernel) (rfl) (rfl) (Nat.le_of_ble_eq_true rfl) dX7_warm_28 (fun H locs hP hD hS => ?_)
  have hv := va_gs (k := (gR x.toNatClampNeg)) (e := (eR x.toNatClampNeg, .inr (6, [.int (ri x.toNatClampNeg), .int (rc x.toNatClampNeg), .int (rf x.toNatClampNeg), .int r25, .int (rs x.toNatClampNeg)]))) (ne_oo hv hs (by decide)) hv
  have hs := va_ge (e := (eR x.toNatClampNeg, .inr (6, [.int (ri x.toNatClampNeg), .int (rc x.toNatClampNeg), .int (rf x.toNatClampNeg), .int r25, .int (rs x.toNatClampNeg)]))) hs
  refine lv_aload_n hx hb dX7_warm_31 rfl (lv_at hl 0 rfl) ?_
  refine va_get (D := G) (ci := 6) (v := .int r25) (C := RX5) (T := TX5) (N := 5) hx hb hts hiX5 hown hK hP (gR x.toNatClampNeg) hs rfl 3 (by decide) (hts (.fieldLink RX7 132 "Vortexpin$Ring" "number" "I") (List.mem_of_getElem? (i := 3) rfl)) (fun _ h9 => h9) rfl dX7_warm_32 ?_
  refine W.widen (k := 1) (n := 6) (Nat.le_of_ble_eq_true rfl) (Nat.le_of_ble_eq_true rfl) (vx_ret ?_)
  have ew : (ws).set (gR x.toNatClampNeg) (eR x.toNatClampNeg, .inr (6, [.int (ri x.toNatClampNeg), .int (rc x.toNatClampNeg), .int (rf x.toNatClampNeg), .int r25, .int (rs x.toNatClampNeg)])) = ws.set (gR x.toNatClampNeg) (eR x.toNatClampNeg, .inr (6, [.int (ri x.toNatClampNeg), .int (rc x.toNatClampNeg), .int (rf x.toNatClampNeg), .int (jfd (rf x.toNatClampNeg + 500) 1000), .int (rs x.toNatClampNeg)])) := by subst h25; simp only [List.set_set, ↓reduceIte, not_true_eq_false, not_false_eq_true]
  have hP : va_P G vwCl ((ws).set (gR x.toNatClampNeg) (eR x.toNatClampNeg, .inr (6, [.int (ri x.toNatClampNeg), .int (rc x.toNatClampNeg), .int (rf x.toNatClampNeg), .int r25, .int (rs x.toNatClampNeg)]))) H := hP
  have hD : va_D A ((ws).set (gR x.toNatClampNeg) (eR x.toNatClampNeg, .inr (6, [.int (ri x.toNatClampNeg), .int (rc x.toNatClampNeg), .int (rf x.toNatClampNeg), .int r25, .int (rs x.toNatClampNeg)]))) := hD
  rw [ew] at hP hD
  exact W.iret (v := r25) hx hb hr (fun t ht hW => ⟨⟨r25, (), rfl, ⟨by unfold cdOne; rw [if_neg k0], h25⟩, by show va_P G vwCl _ t.heap ∧ va_D A _; rw [ht]; exact ⟨hP, hD⟩⟩, hS.F ht⟩) hS.2.2 dX7_warm_35
set_option maxHeartbeats 4000000 in
set_option maxRecDepth 100000 in
theorem metX7_ofRing (l : Launch) (hnt : l.stackTraces = false) (G : va_G) (tys : List (ClassId × FieldType)) {A : Nat → Prop} {tE mi : Nat} (ws : va_W) {cO : ClassId} (htO : tO tys cO) {pv v aS af aR ao ak aP aC : Nat} (hv : ws[pv]? = some (v, .inr (8, [.ref aS, .ref af, .ref aR, .ref ao, .ref ak, .ref aP, .ref aC]))) {pR qR nR : Nat} {eR : Nat → Nat} (hR9 : lsL ws tE cO pR aR nR eR qR) {gR : Nat → Nat} {ri rc rf rn rs : Nat → Int32} (hRg : ∀ i, i < nR → ws[gR i]? = some (eR i, .inr (6, [.int (ri i), .int (rc i), .int (rf i), .int (rn i), .int (rs i)]))) (x w : Int32) : vx_Met l yX7_ofRing wsX7_ofRing { frames := 7, cells := 2, slots := 12, locals := 104 } (pcX G tys ws A tE mi [.ref v, .int x, .int w]) (va_Qi (fun (r : Int32) (_ : Unit) => cdOfRing x w (nI nR) = 0 ∧ r = (if w = 0 then rn x.toNatClampNeg else if w = 1 then rCur (ri x.toNatClampNeg) (rf x.toNatClampNeg) (rn x.toNatClampNeg) else rs x.toNatClampNeg)) (fun _ t => va_P G vwCl (ws) t.heap ∧ va_D A (ws)) A) (xcT (fun E => xC (cdOfRing x w (nI nR)) eIB eIA "" E)) 2 12 A := by
  refine ofX (cc := cX7_ofRing) (maxL := 4) (ret := some .int) (by decide) rfl (Nat.le_of_ble_eq_true rfl) ?_
  intro p e s m below meth c ls hx hb hr hlocks hml hown hts hno hl hP hK hD hA hS hE
  have hown : s.vm.findClass RX7 = some m.cls := hown
  have hiX5 : ∀ w ∈ u_ws RX5 TX5 5, w ∈ wsX7_ofRing := fun _ h => List.mem_cons_of_mem _ (List.mem_append_left _ (List.mem_append_left _ (List.mem_append_left _ (List.mem_append_right _ h))))
  have hiX7 : ∀ w ∈ u_ws RX7 TX7 7, w ∈ wsX7_ofRing := fun _ h => List.mem_cons_of_mem _ (List.mem_append_left _ (List.mem_append_left _ (List.mem_append_left _ (List.mem_append_left _ (List.mem_append_right _ h)))))
  have hl : lv_has ls 4 [(0, .ref v), (1, .int x), (2, .int w)] := hl
  have hO : okO s s.heap := ⟨Nat.le_refl _, fun _ _ => rfl⟩
  refine lv_iload_n hx hb dX7_ofRing_0 rfl (lv_at hl 1 rfl) ?_
  refine lv_aload_n hx hb dX7_ofRing_1 rfl (lv_at hl 0 rfl) ?_
  refine va_get (D := G) (ci := 8) (v := .ref aR) (C := RX7) (T := TX7) (N := 7) hx hb hts hiX7 hown hK hP pv hv rfl 2 (by decide) (hts (.fieldLink RX7 23 "Vortexpin" "rings" "Ljava/util/ArrayList;") (List.mem_of_getElem? (i := 1) rfl)) (fun _ h9 => h9) rfl dX7_ofRing_2 ?_
  obtain ⟨mosz5, aesz5, hLsz5⟩ := lsL_cell hR9
  refine vp_callSi (va_Run.run (va_runV (As := []) (rest := [.int x]) ⟨hx, hb, hml, hown, hts⟩ (metSize l G tys _ hR9) (cwV 0 hts gX7_ofRing_Jx4a65c_size_8abf5 rfl rfl rfl (by decide +kernel) ⟨Nat.le_of_ble_eq_true rfl, Nat.le_of_ble_eq_true rfl⟩) ⟨pcR_b, va_recv hK hP (ci := 0) (q0 := pR) rfl hLsz5, pcR_u hP hK⟩ rfl rfl hl.1 rfl (lv_room (Nat.le_of_ble_eq_true rfl)) dX7_ofRing_5 ⟨Nat.le_of_ble_eq_true rfl, Nat.le_of_ble_eq_true rfl⟩)) (fun r5 h5 => ?_)
  subst h5
  refine ref_step (vx_runS (As := [.int x, .int (nI nR)]) (rest := []) ⟨hx, hb, hml, hown, hts⟩ (metX7_refuseUnknown l hnt x (nI nR)) (va_cwS 2 hts gX7_ofRing_X7_refuseUnknown rfl rfl rfl (by decide +kernel) ⟨Nat.le_of_ble_eq_true rfl, Nat.le_of_ble_eq_true rfl⟩) ⟨pcE_b, pcE_u hE hS hA⟩ rfl rfl hl.1 rfl (lv_room (Nat.le_of_ble_eq_true rfl)) dX7_ofRing_8 ⟨Nat.le_of_ble_eq_true rfl, Nat.le_of_ble_eq_true rfl⟩) hno hlocks hS hO hP (fun hbd => Or.inl ⟨by unfold cdOfRing; rw [if_pos hbd], rfl⟩) (Nat.le_of_ble_eq_true rfl) (Nat.le_of_ble_eq_true rfl) (fun k0 H locs hS hO hP => ?_)
  have hs := hRg x.toNatClampNeg (uK_ix k0).2
  refine lv_iload_n hx hb dX7_ofRing_11 rfl (lv_at hl 2 rfl) ?_
  refine lv_iconst (v := 0) hx hb dX7_ofRing_12 (by decide) ?_
  refine lv_iconst (v := 2) hx hb dX7_ofRing_13 (by decide) ?_
  refine ref_step (vx_runS (As := [.int w, .int (0 : Int32), .int (2 : Int32)]) (rest := []) ⟨hx, hb, hml, hown, hts⟩ (metX7_refuseOutside l hnt w (0 : Int32) (2 : Int32)) (va_cwS 3 hts gX7_ofRing_X7_refuseOutside rfl rfl rfl (by decide +kernel) ⟨Nat.le_of_ble_eq_true rfl, Nat.le_of_ble_eq_true rfl⟩) ⟨pcE_b, pcE_u hE hS hA⟩ rfl rfl hl.1 rfl (lv_room (Nat.le_of_ble_eq_true rfl)) dX7_ofRing_14 ⟨Nat.le_of_ble_eq_true rfl, Nat.le_of_ble_eq_true rfl⟩) hno hlocks hS hO hP (fun hbd => Or.inr (Or.inl ⟨by unfold cdOfRing; rw [if_neg k0, if_pos hbd], rfl⟩)) (Nat.le_of_ble_eq_true rfl) (Nat.le_of_ble_eq_true rfl) (fun k1 H locs hS hO hP => ?_)
  refine lv_aload_n hx hb dX7_ofRing_17 rfl (lv_at hl 0 rfl) ?_
  refine va_get (D := G) (ci := 8) (v := .ref aR) (C := RX7) (T := TX7) (N := 7) hx hb hts hiX7 hown hK hP pv hv rfl 2 (by decide) (hts (.fieldLink RX7 23 "Vortexpin" "rings" "Ljava/util/ArrayList;") (List.mem_of_getElem? (i := 1) rfl)) (fun _ h9 => h9) rfl dX7_ofRing_18 ?_
  refine lv_iload_n hx hb dX7_ofRing_21 rfl (lv_at hl 1 rfl) ?_
  obtain ⟨mogt22, aegt22, hLgt22⟩ := lsL_cell hR9
  refine va_csq (va_Run.run (va_runV (As := [.int x]) (rest := []) ⟨hx, hb, hml, hown, hts⟩ (metGet l G tys _ htO hR9 x k0) (cwV 1 hts gX7_ofRing_Jx4a65c_get_915e3 rfl rfl rfl (by decide +kernel) ⟨Nat.le_of_ble_eq_true rfl, Nat.le_of_ble_eq_true rfl⟩) ⟨pcR_b, va_recv hK hP (ci := 0) (q0 := pR) rfl hLgt22, pcR_u hP hK⟩ rfl rfl hl.1 rfl (lv_room (Nat.le_of_ble_eq_true rfl)) dX7_ofRing_22 ⟨Nat.le_of_ble_eq_true rfl, Nat.le_of_ble_eq_true rfl⟩)) (fun r22 h22 => ?_)
  refine rf_q h22 ?_
  refine va_castE hx hb hown (hts (.classLink RX7 117 "Vortexpin$Ring") (List.mem_of_getElem? (i := 2) rfl)) (va_recv hK hP (ci := 6) (q0 := (gR x.toNatClampNeg)) rfl hs) dX7_ofRing_25 ?_
  refine lv_astore_n (lv' := [(3, .ref (eR x.toNatClampNeg)), (0, .ref v), (1, .int x), (2, .int w)]) hx hb dX7_ofRing_28 rfl hl (by decide) rfl (fun ls hl => ?_)
  refine lv_iload_n hx hb dX7_ofRing_29 rfl (lv_at hl 3 rfl) ?_
  by_cases c30_0 : w = (0 : Int32)
  · refine lv_lookup (off := 26) (tgt := 56) hx hb dX7_ofRing_30 (by decide) (by rw [c30_0]; decide) (by decide) ?_
    refine lv_aload_n hx hb dX7_ofRing_56 rfl (lv_at hl 0 rfl) ?_
    refine va_get (D := G) (ci := 6) (v := .int (rn x.toNatClampNeg)) (C := RX5) (T := TX5) (N := 5) hx hb hts hiX5 hown hK hP (gR x.toNatClampNeg) hs rfl 3 (by decide) (hts (.fieldLink RX7 132 "Vortexpin$Ring" "number" "I") (List.mem_of_getElem? (i := 3) rfl)) (fun _ h9 => h9) rfl dX7_ofRing_57 ?_
    refine W.widen (k := 2) (n := 12) (Nat.le_of_ble_eq_true rfl) (Nat.le_of_ble_eq_true rfl) (vx_ret ?_)
    exact W.iret (v := rn x.toNatClampNeg) hx hb hr (fun t ht hW => ⟨⟨rn x.toNatClampNeg, (), rfl, ⟨by unfold cdOfRing; rw [if_neg k0, if_neg k1], by simp only [(eq_true c30_0), ↓reduceIte, not_true_eq_false, not_false_eq_true]⟩, by show va_P G vwCl _ t.heap ∧ va_D A _; rw [ht]; exact ⟨hP, hD⟩⟩, hS.F ht⟩) hS.2.2 dX7_ofRing_60
  by_cases c30_1 : w = (1 : Int32)
  · refine lv_lookup (off := 31) (tgt := 61) hx hb dX7_ofRing_30 (by decide) (by rw [c30_1]; decide) (by decide) ?_
    refine lv_aload_n hx hb dX7_ofRing_61 rfl (lv_at hl 0 rfl) ?_
    refine lv_aload_n hx hb dX7_ofRing_62 rfl (lv_at hl 0 rfl) ?_
    refine va_get (D := G) (ci := 6) (v := .int (rn x.toNatClampNeg)) (C := RX5) (T := TX5) (N := 5) hx hb hts hiX5 hown hK hP (gR x.toNatClampNeg) hs rfl 3 (by decide) (hts (.fieldLink RX7 132 "Vortexpin$Ring" "number" "I") (List.mem_of_getElem? (i := 3) rfl)) (fun _ h9 => h9) rfl dX7_ofRing_63 ?_
    refine vp_callSi (va_Run.run (va_runV (As := [.int (rn x.toNatClampNeg)]) (rest := []) ⟨hx, hb, hml, hown, hts⟩ (metX5_currentWith l G tys _ hs (rn x.toNatClampNeg)) (cwV 1 hts gX7_ofRing_X5_currentWith rfl rfl rfl (by decide +kernel) ⟨Nat.le_of_ble_eq_true rfl, Nat.le_of_ble_eq_true rfl⟩) ⟨pcR_b, va_recv hK hP (ci := 6) (q0 := (gR x.toNatClampNeg)) rfl hs, pcR_u hP hK⟩ rfl rfl hl.1 rfl (lv_room (Nat.le_of_ble_eq_true rfl)) dX7_ofRing_66 ⟨Nat.le_of_ble_eq_true rfl, Nat.le_of_ble_eq_true rfl⟩)) (fun r66 h66 => ?_)
    refine W.widen (k := 2) (n := 12) (Nat.le_of_ble_eq_true rfl) (Nat.le_of_ble_eq_true rfl) (vx_ret ?_)
    exact W.iret (v := r66) hx hb hr (fun t ht hW => ⟨⟨r66, (), rfl, ⟨by unfold cdOfRing; rw [if_neg k0, if_neg k1], by subst h66; simp only [c30_0, (eq_true c30_1), ↓reduceIte, not_true_eq_false, not_false_eq_true]⟩, by show va_P G vwCl _ t.heap ∧ va_D A _; rw [ht]; exact ⟨hP, hD⟩⟩, hS.F ht⟩) hS.2.2 dX7_ofRing_69
  refine lv_lookup (off := 40) (tgt := 70) hx hb dX7_ofRing_30 (by decide) (by rw [lv_osw c30_0 (by decide), lv_osw c30_1 (by decide)]; rfl) (by decide) ?_
  refine lv_aload_n hx hb dX7_ofRing_70 rfl (lv_at hl 0 rfl) ?_
  refine va_get (D := G) (ci := 6) (v := .int (rs x.toNatClampNeg)) (C := RX5) (T := TX5) (N := 5) hx hb hts hiX5 hown hK hP (gR x.toNatClampNeg) hs rfl 4 (by decide) (hts (.fieldLink RX7 138 "Vortexpin$Ring" "slips" "I") (List.mem_of_getElem? (i := 4) rfl)) (fun _ h9 => h9) rfl dX7_ofRing_71 ?_
  refine W.widen (k := 2) (n := 12) (Nat.le_of_ble_eq_true rfl) (Nat.le_of_ble_eq_true rfl) (vx_ret ?_)
  exact W.iret (v := rs x.toNatClampNeg) hx hb hr (fun t ht hW => ⟨⟨rs x.toNatClampNeg, (), rfl, ⟨by unfold cdOfRing; rw [if_neg k0, if_neg k1], by simp only [c30_0, c30_1, ↓reduceIte, not_true_eq_false, not_false_eq_true]⟩, by show va_P G vwCl _ t.heap ∧ va_D A _; rw [ht]; exact ⟨hP, hD⟩⟩, hS.F ht⟩) hS.2.2 dX7_ofRing_74
