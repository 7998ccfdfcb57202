theorem lsL_ga {ws w2 : va_W} {tE : Nat} {cO : ClassId} {pl al c pe : Nat} {el : Nat → Nat} (h : lsL ws tE cO pl al c el pe) : lsL (ws ++ w2) tE cO pl al c el pe := by
  obtain ⟨mo, ⟨h0, hL⟩ | ⟨h0, ae, n, a, hL, he, hr⟩⟩ := h
  · exact ⟨mo, Or.inl ⟨h0, va_ga hL⟩⟩
  · exact ⟨mo, Or.inr ⟨h0, ae, n, a, va_ga hL, va_ga he, hr⟩⟩
theorem lsL_of {ws w2 : va_W} {tE : Nat} {cO : ClassId} {pl al c pe : Nat} {el : Nat → Nat} (h : lsL ws tE cO pl al c el pe) (h1 : ∀ x, ws[pl]? = some x → w2[pl]? = some x) (h2 : 0 < c → ∀ x, ws[pe]? = some x → w2[pe]? = some x) : lsL w2 tE cO pl al c el pe := by
  obtain ⟨mo, ⟨h0, hL⟩ | ⟨h0, ae, n, a, hL, he, hr⟩⟩ := h
  · exact ⟨mo, Or.inl ⟨h0, h1 _ hL⟩⟩
  · exact ⟨mo, Or.inr ⟨h0, ae, n, a, h1 _ hL, h2 h0 _ he, hr⟩⟩
theorem lsL_ne {ws : va_W} {tE : Nat} {cO : ClassId} {pl al c pe j b c0 : Nat} {el : Nat → Nat} {y : List Value} (h : lsL ws tE cO pl al c el pe) (hj : ws[j]? = some (b, .inr (c0, y))) (hc : c0 ≠ 0) : j ≠ pl ∧ (0 < c → j ≠ pe) := by
  obtain ⟨mo, ⟨h0, hL⟩ | ⟨h0, ae, n, a, hL, he, hr⟩⟩ := h
  · exact ⟨ne_oo hj hL hc, fun q => by omega⟩
  · exact ⟨ne_oo hj hL hc, fun _ => (ne_lr he hj).symm⟩
theorem lsL_cell {ws : va_W} {tE : Nat} {cO : ClassId} {pl al c pe : Nat} {el : Nat → Nat} (h : lsL ws tE cO pl al c el pe) : ∃ (mo : Int32) (ae : Nat), ws[pl]? = some (al, .inr (0, [.int mo, .ref ae, .int (nI c)])) := by
  obtain ⟨mo, ⟨rfl, hL⟩ | ⟨h0, ae, n, a, hL, he, hr⟩⟩ := h
  · exact ⟨mo, _, hL⟩
  · exact ⟨mo, _, hL⟩
theorem lsA_of {ws : va_W} {tE : Nat} {cO : ClassId} {pl al c pe v j b c0 : Nat} {el : Nat → Nat} {y : List Value} {w2 : va_W} (hls : lsL ws tE cO pl al c el pe) (h : lsA ws tE cO pl al c el pe v w2) (hj : ws[j]? = some (b, .inr (c0, y))) (hc : c0 ≠ 0) : w2[j]? = some (b, .inr (c0, y)) := by
  obtain ⟨pe2, -, -, h3⟩ := h
  obtain ⟨g1, g2⟩ := lsL_ne hls hj hc
  exact h3 j _ g1 g2 hj
theorem metSize (l : Launch) (G : va_G) (tys : List (ClassId × FieldType)) (ws : va_W) {tE : Nat} {cO : ClassId} {pl al c pe : Nat} {el : Nat → Nat} (h : lsL ws tE cO pl al c el pe) : Met l yJx4a65c_size_8abf5 wsJx4a65c_size_8abf5 ({ frames := 0, cells := 0, slots := 0, locals := 0 }) (pcR G tys ws [.ref al]) (vp_Si (fun r => r = nI c)) 0 0 (fun _ => False) := by
  obtain ⟨mo, ae, hL⟩ := lsL_cell h
  exact metJx4a65c_size_8abf5 l G tys ws hL
theorem metGet (l : Launch) (G : va_G) (tys : List (ClassId × FieldType)) (ws : va_W) {tE : Nat} {cO : ClassId} (htO : tO tys cO) {pl al c pe : Nat} {el : Nat → Nat} (h : lsL ws tE cO pl al c el pe) (x : Int32) (hx : ¬ uK x (nI c)) : Met l yJx4a65c_get_915e3 wsJx4a65c_get_915e3 ({ frames := 2, cells := 0, slots := 0, locals := 43 }) (pcR G tys ws [.ref al, .int x]) (va_Sq (fun r => r = some (el x.toNatClampNeg))) 0 0 (fun _ => False) := by
  obtain ⟨hxe, hxl⟩ := uK_ix hx
  obtain ⟨mo, ⟨rfl, hL⟩ | ⟨h0, ae, n, a, hL, he, hcn, h10, h100, hae, han⟩⟩ := h
  · omega
  · have k := metJx4a65c_get_915e3 l G tys ws hL htO he x (fun q => hx (Or.inl q)) (Int32.not_le.mp (fun q => hx (Or.inr q))) (fun q => q.elim (fun z => hx (Or.inl z)) (fun z => by omega))
    rw [hae _ hxl] at k
    exact k
set_option maxHeartbeats 4000000 in
set_option maxRecDepth 100000 in
theorem metX7_ofRing (l : Launch) (hnt : l.stackTraces = false) (G : va_G) (tys : List (ClassId × FieldType)) {A : Nat → Prop} {tE mi : Nat} (ws : va_W) {cO : ClassId} (htO : tO tys cO) {pv v aS af aR ao ak aP aC : Nat} (hv : ws[pv]? = some (v, .inr (7, [.ref aS, .ref af, .ref aR, .ref ao, .ref ak, .ref aP, .ref aC]))) {pR qR nR : Nat} {eR : Nat → Nat} (hR9 : lsL ws tE cO pR aR nR eR qR) {gR : Nat → Nat} {ri rc rf rn rs : Nat → Int32} (hRg : ∀ i, i < nR → ws[gR i]? = some (eR i, .inr (6, [.int (ri i), .int (rc i), .int (rf i), .int (rn i), .int (rs i)]))) (x w : Int32) : vx_Met l yX7_ofRing wsX7_ofRing { frames := 7, cells := 2, slots := 12, locals := 104 } (pcX G tys ws A tE mi [.ref v, .int x, .int w]) (va_Qi (fun (r : Int32) (_ : Unit) => cdOfRing x w (nI nR) = 0 ∧ r = (if w = 0 then rn x.toNatClampNeg else if w = 1 then rCur (ri x.toNatClampNeg) (rf x.toNatClampNeg) (rn x.toNatClampNeg) else rs x.toNatClampNeg)) (fun _ t => va_P G vwCl (ws) t.heap ∧ va_D A (ws)) A) (xcT (fun E => xC (cdOfRing x w (nI nR)) eIB eIA "" E)) 2 12 A := by
  refine ofX (cc := cX7_ofRing) (maxL := 4) (ret := some .int) (by decide) rfl (Nat.le_of_ble_eq_true rfl) ?_
  intro p e s m below meth c ls hx hb hr hlocks hml hown hts hno hl hP hK hD hA hS hE
  have hown : s.vm.findClass RX7 = some m.cls := hown
  have hiX5 : ∀ w ∈ u_ws RX5 TX5 5, w ∈ wsX7_ofRing := fun _ h => List.mem_cons_of_mem _ (List.mem_append_left _ (List.mem_append_left _ (List.mem_append_left _ (List.mem_append_right _ h))))
  have hiX7 : ∀ w ∈ u_ws RX7 TX7 7, w ∈ wsX7_ofRing := fun _ h => List.mem_cons_of_mem _ (List.mem_append_left _ (List.mem_append_left _ (List.mem_append_left _ (List.mem_append_left _ (List.mem_append_right _ h)))))
  have hl : lv_has ls 4 [(0, .ref v), (1, .int x), (2, .int w)] := hl
  have hO : okO s s.heap := ⟨Nat.le_refl _, fun _ _ => rfl⟩
  refine lv_iload_n hx hb dX7_ofRing_0 rfl (lv_at hl 1 rfl) ?_
  refine lv_aload_n hx hb dX7_ofRing_1 rfl (lv_at hl 0 rfl) ?_
  refine va_get (D := G) (ci := 7) (v := .ref aR) (C := RX7) (T := TX7) (N := 7) hx hb hts hiX7 hown hK hP pv hv rfl 2 (by decide) (hts (.fieldLink RX7 23 "Vortexpin" "rings" "Ljava/util/ArrayList;") (List.mem_of_getElem? (i := 1) rfl)) (fun _ h9 => h9) rfl dX7_ofRing_2 ?_
  obtain ⟨mosz5, aesz5, hLsz5⟩ := lsL_cell hR9
  refine vp_callSi (va_Run.run (va_runV (As := []) (rest := [.int x]) ⟨hx, hb, hml, hown, hts⟩ (metSize l G tys _ hR9) (cwV 0 hts gX7_ofRing_Jx4a65c_size_8abf5 rfl rfl rfl (by decide +kernel) ⟨Nat.le_of_ble_eq_true rfl, Nat.le_of_ble_eq_true rfl⟩) ⟨pcR_b, va_recv hK hP (ci := 0) (q0 := pR) rfl hLsz5, pcR_u hP hK⟩ rfl rfl hl.1 rfl (lv_room (Nat.le_of_ble_eq_true rfl)) dX7_ofRing_5 ⟨Nat.le_of_ble_eq_true rfl, Nat.le_of_ble_eq_true rfl⟩)) (fun r5 h5 => ?_)
  subst h5
  refine ref_step (vx_runS (As := [.int x, .int (nI nR)]) (rest := []) ⟨hx, hb, hml, hown, hts⟩ (metX7_refuseUnknown l hnt x (nI nR)) (va_cwS 2 hts gX7_ofRing_X7_refuseUnknown rfl rfl rfl (by decide +kernel) ⟨Nat.le_of_ble_eq_true rfl, Nat.le_of_ble_eq_true rfl⟩) ⟨pcE_b, pcE_u hE hS hA⟩ rfl rfl hl.1 rfl (lv_room (Nat.le_of_ble_eq_true rfl)) dX7_ofRing_8 ⟨Nat.le_of_ble_eq_true rfl, Nat.le_of_ble_eq_true rfl⟩) hno hlocks hS hO hP (fun hbd => Or.inl ⟨by unfold cdOfRing; rw [if_pos hbd], rfl⟩) (Nat.le_of_ble_eq_true rfl) (Nat.le_of_ble_eq_true rfl) (fun k0 H locs hS hO hP => ?_)
  have hs := hRg x.toNatClampNeg (uK_ix k0).2
  refine lv_iload_n hx hb dX7_ofRing_11 rfl (lv_at hl 2 rfl) ?_
  refine lv_iconst (v := 0) hx hb dX7_ofRing_12 (by decide) ?_
  refine lv_iconst (v := 2) hx hb dX7_ofRing_13 (by decide) ?_
  refine ref_step (vx_runS (As := [.int w, .int (0 : Int32), .int (2 : Int32)]) (rest := []) ⟨hx, hb, hml, hown, hts⟩ (metX7_refuseOutside l hnt w (0 : Int32) (2 : Int32)) (va_cwS 3 hts gX7_ofRing_X7_refuseOutside rfl rfl rfl (by decide +kernel) ⟨Nat.le_of_ble_eq_true rfl, Nat.le_of_ble_eq_true rfl⟩) ⟨pcE_b, pcE_u hE hS hA⟩ rfl rfl hl.1 rfl (lv_room (Nat.le_of_ble_eq_true rfl)) dX7_ofRing_14 ⟨Nat.le_of_ble_eq_true rfl, Nat.le_of_ble_eq_true rfl⟩) hno hlocks hS hO hP (fun hbd => Or.inr (Or.inl ⟨by unfold cdOfRing; rw [if_neg k0, if_pos hbd], rfl⟩)) (Nat.le_of_ble_eq_true rfl) (Nat.le_of_ble_eq_true rfl) (fun k1 H locs hS hO hP => ?_)
  refine lv_aload_n hx hb dX7_ofRing_17 rfl (lv_at hl 0 rfl) ?_
  refine va_get (D := G) (ci := 7) (v := .ref aR) (C := RX7) (T := TX7) (N := 7) hx hb hts hiX7 hown hK hP pv hv rfl 2 (by decide) (hts (.fieldLink RX7 23 "Vortexpin" "rings" "Ljava/util/ArrayList;") (List.mem_of_getElem? (i := 1) rfl)) (fun _ h9 => h9) rfl dX7_ofRing_18 ?_
  refine lv_iload_n hx hb dX7_ofRing_21 rfl (lv_at hl 1 rfl) ?_
  obtain ⟨mogt22, aegt22, hLgt22⟩ := lsL_cell hR9
  refine va_csq (va_Run.run (va_runV (As := [.int x]) (rest := []) ⟨hx, hb, hml, hown, hts⟩ (metGet l G tys _ htO hR9 x k0) (cwV 1 hts gX7_ofRing_Jx4a65c_get_915e3 rfl rfl rfl (by decide +kernel) ⟨Nat.le_of_ble_eq_true rfl, Nat.le_of_ble_eq_true rfl⟩) ⟨pcR_b, va_recv hK hP (ci := 0) (q0 := pR) rfl hLgt22, pcR_u hP hK⟩ rfl rfl hl.1 rfl (lv_room (Nat.le_of_ble_eq_true rfl)) dX7_ofRing_22 ⟨Nat.le_of_ble_eq_true rfl, Nat.le_of_ble_eq_true rfl⟩)) (fun r22 h22 => ?_)
  refine rf_q h22 ?_
  refine va_castE hx hb hown (hts (.classLink RX7 117 "Vortexpin$Ring") (List.mem_of_getElem? (i := 2) rfl)) (va_recv hK hP (ci := 6) (q0 := (gR x.toNatClampNeg)) rfl hs) dX7_ofRing_25 ?_
  refine lv_astore_n (lv' := [(3, .ref (eR x.toNatClampNeg)), (0, .ref v), (1, .int x), (2, .int w)]) hx hb dX7_ofRing_28 rfl hl (by decide) rfl (fun ls hl => ?_)
  refine lv_iload_n hx hb dX7_ofRing_29 rfl (lv_at hl 3 rfl) ?_
  by_cases c30_0 : w = (0 : Int32)
  · refine lv_lookup (off := 26) (tgt := 56) hx hb dX7_ofRing_30 (by decide) (by rw [c30_0]; decide) (by decide) ?_
    refine lv_aload_n hx hb dX7_ofRing_56 rfl (lv_at hl 0 rfl) ?_
    refine va_get (D := G) (ci := 6) (v := .int (rn x.toNatClampNeg)) (C := RX5) (T := TX5) (N := 5) hx hb hts hiX5 hown hK hP (gR x.toNatClampNeg) hs rfl 3 (by decide) (hts (.fieldLink RX7 132 "Vortexpin$Ring" "number" "I") (List.mem_of_getElem? (i := 3) rfl)) (fun _ h9 => h9) rfl dX7_ofRing_57 ?_
    refine W.widen (k := 2) (n := 12) (Nat.le_of_ble_eq_true rfl) (Nat.le_of_ble_eq_true rfl) (vx_ret ?_)
    exact W.iret (v := rn x.toNatClampNeg) hx hb hr (fun t ht hW => ⟨⟨rn x.toNatClampNeg, (), rfl, ⟨by unfold cdOfRing; rw [if_neg k0, if_neg k1], by simp only [(eq_true c30_0), ↓reduceIte, not_true_eq_false, not_false_eq_true]⟩, by show va_P G vwCl _ t.heap ∧ va_D A _; rw [ht]; exact ⟨hP, hD⟩⟩, hS.F ht⟩) hS.2.2 dX7_ofRing_60
  by_cases c30_1 : w = (1 : Int32)
  · refine lv_lookup (off := 31) (tgt := 61) hx hb dX7_ofRing_30 (by decide) (by rw [c30_1]; decide) (by decide) ?_
    refine lv_aload_n hx hb dX7_ofRing_61 rfl (lv_at hl 0 rfl) ?_
    refine lv_aload_n hx hb dX7_ofRing_62 rfl (lv_at hl 0 rfl) ?_
    refine va_get (D := G) (ci := 6) (v := .int (rn x.toNatClampNeg)) (C := RX5) (T := TX5) (N := 5) hx hb hts hiX5 hown hK hP (gR x.toNatClampNeg) hs rfl 3 (by decide) (hts (.fieldLink RX7 132 "Vortexpin$Ring" "number" "I") (List.mem_of_getElem? (i := 3) rfl)) (fun _ h9 => h9) rfl dX7_ofRing_63 ?_
    refine vp_callSi (va_Run.run (va_runV (As := [.int (rn x.toNatClampNeg)]) (rest := []) ⟨hx, hb, hml, hown, hts⟩ (metX5_currentWith l G tys _ hs (rn x.toNatClampNeg)) (cwV 1 hts gX7_ofRing_X5_currentWith rfl rfl rfl (by decide +kernel) ⟨Nat.le_of_ble_eq_true rfl, Nat.le_of_ble_eq_true rfl⟩) ⟨pcR_b, va_recv hK hP (ci := 6) (q0 := (gR x.toNatClampNeg)) rfl hs, pcR_u hP hK⟩ rfl rfl hl.1 rfl (lv_room (Nat.le_of_ble_eq_true rfl)) dX7_ofRing_66 ⟨Nat.le_of_ble_eq_true rfl, Nat.le_of_ble_eq_true rfl⟩)) (fun r66 h66 => ?_)
    refine W.widen (k := 2) (n := 12) (Nat.le_of_ble_eq_true rfl) (Nat.le_of_ble_eq_true rfl) (vx_ret ?_)
    exact W.iret (v := r66) hx hb hr (fun t ht hW => ⟨⟨r66, (), rfl, ⟨by unfold cdOfRing; rw [if_neg k0, if_neg k1], by subst h66; simp only [c30_0, (eq_true c30_1), ↓reduceIte, not_true_eq_false, not_false_eq_true]⟩, by show va_P G vwCl _ t.heap ∧ va_D A _; rw [ht]; exact ⟨hP, hD⟩⟩, hS.F ht⟩) hS.2.2 dX7_ofRing_69
  refine lv_lookup (off := 40) (tgt := 70) hx hb dX7_ofRing_30 (by decide) (by rw [lv_osw c30_0 (by decide), lv_osw c30_1 (by decide)]; rfl) (by decide) ?_
  refine lv_aload_n hx hb dX7_ofRing_70 rfl (lv_at hl 0 rfl) ?_
  refine va_get (D := G) (ci := 6) (v := .int (rs x.toNatClampNeg)) (C := RX5) (T := TX5) (N := 5) hx hb hts hiX5 hown hK hP (gR x.toNatClampNeg) hs rfl 4 (by decide) (hts (.fieldLink RX7 138 "Vortexpin$Ring" "slips" "I") (List.mem_of_getElem? (i := 4) rfl)) (fun _ h9 => h9) rfl dX7_ofRing_71 ?_
  refine W.widen (k := 2) (n := 12) (Nat.le_of_ble_eq_true rfl) (Nat.le_of_ble_eq_true rfl) (vx_ret ?_)
  exact W.iret (v := rs x.toNatClampNeg) hx hb hr (fun t ht hW => ⟨⟨rs x.toNatClampNeg, (), rfl, ⟨by unfold cdOfRing; rw [if_neg k0, if_neg k1], by simp only [c30_0, c30_1, ↓reduceIte, not_true_eq_false, not_false_eq_true]⟩, by show va_P G vwCl _ t.heap ∧ va_D A _; rw [ht]; exact ⟨hP, hD⟩⟩, hS.F ht⟩) hS.2.2 dX7_ofRing_74

