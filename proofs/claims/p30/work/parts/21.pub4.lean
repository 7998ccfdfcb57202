theorem n8 {n k : Nat} (h : ¬ nI k ≤ nI n) (hn : n ≤ 60) (hk : k < 2 ^ 31) : n < k := Nat.lt_of_not_le (fun q => h ((nI_leI hk (by omega)).mpr q))
theorem nI_m1 (n : Nat) : nI (n + 1) - 1 = nI n := by
  rw [← nI_1]
  exact Int32.add_sub_cancel _ _
theorem w_claim {ws : va_W} {a b1 b2 b3 b4 b5 x : Nat × va_E} : ((((((ws ++ ([a] : va_W)).set ws.length b1).set ws.length b2).set ws.length b3).set ws.length b4) ++ ([x] : va_W)).set ws.length b5 = ws ++ ([b5, x] : va_W) := by
  rw [va_sn, va_sn, va_sn, va_sn, List.append_assoc]
  exact sp_0 rfl
theorem uK_of {a n : Nat} (h : a < n) (hn : n < 2 ^ 31) : ¬ uK (nI a) (nI n) := fun q => q.elim (nI_nlt (Nat.zero_le a) (by omega)) (fun z => absurd ((nI_leI hn (by omega)).mp z) (by omega))
set_option maxHeartbeats 4000000 in
set_option maxRecDepth 100000 in
theorem metX7_ring (l : Launch) (hnt : l.stackTraces = false) (G : va_G) (tys : List (ClassId × FieldType)) {A : Nat → Prop} {tE mi : Nat} (ws : va_W) {cO : ClassId} (htO : tO tys cO) {pv v aS af aR ao ak aP aC : Nat} (hv : ws[pv]? = some (v, .inr (7, [.ref aS, .ref af, .ref aR, .ref ao, .ref ak, .ref aP, .ref aC]))) {pR qR nR : Nat} {eR : Nat → Nat} (hR9 : lsL ws tE cO pR aR nR eR qR) {gR : Nat → Nat} {ri rc rf rn rs : Nat → Int32} (hRg : ∀ i, i < nR → ws[gR i]? = some (eR i, .inr (6, [.int (ri i), .int (rc i), .int (rf i), .int (rn i), .int (rs i)]))) (x y : Int32) (hn60 : nR ≤ 60) : vx_Met l yX7_ring wsX7_ring { frames := 8, cells := 5, slots := 223, locals := 225 } (pcX G tys ws A tE mi [.ref v, .int x, .int y]) (va_Qi (fun (r : Int32) (u : Nat × va_W) => cdRing x y (nI nR) = 0 ∧ r = nI nR ∧ lsA (ws ++ ([(u.1, .inr (6, [.int x, .int y, .int 0, .int 0, .int 0]))] : va_W)) tE cO pR aR nR eR qR u.1 u.2) (fun u t => va_P G vwCl (u.2) t.heap ∧ va_D A (u.2)) A) (xcT (fun E => xC (cdRing x y (nI nR)) eIA eIS "" E)) 5 223 A := by
  refine ofX (cc := cX7_ring) (maxL := 3) (ret := some .int) (by decide) rfl (Nat.le_of_ble_eq_true rfl) ?_
  intro p e s m below meth c ls hx hb hr hlocks hml hown hts hno hl hP hK hD hA hS hE
  have hown : s.vm.findClass RX7 = some m.cls := hown
  have hiX5 : ∀ w ∈ u_ws RX5 TX5 5, w ∈ wsX7_ring := fun _ h => List.mem_cons_of_mem _ (List.mem_append_left _ (List.mem_append_left _ (List.mem_append_left _ (List.mem_append_right _ h))))
  have hiX7 : ∀ w ∈ u_ws RX7 TX7 7, w ∈ wsX7_ring := fun _ h => List.mem_cons_of_mem _ (List.mem_append_left _ (List.mem_append_left _ (List.mem_append_left _ (List.mem_append_left _ (List.mem_append_right _ h)))))
  have hl : lv_has ls 3 [(0, .ref v), (1, .int x), (2, .int y)] := hl
  have hO : okO s s.heap := ⟨Nat.le_refl _, fun _ _ => rfl⟩
  have hv0 := hv
  refine lv_iload_n hx hb dX7_ring_0 rfl (lv_at hl 1 rfl) ?_
  refine lv_iconst (v := 1) hx hb dX7_ring_1 (by decide) ?_
  refine lv_bipush (v := 100) hx hb dX7_ring_2 (by decide) ?_
  refine ref_step (vx_runS (As := [.int x, .int (1 : Int32), .int (100 : Int32)]) (rest := []) ⟨hx, hb, hml, hown, hts⟩ (metX7_refuseOutside l hnt x (1 : Int32) (100 : Int32)) (va_cwS 3 hts gX7_ring_X7_refuseOutside rfl rfl rfl (by decide +kernel) ⟨Nat.le_of_ble_eq_true rfl, Nat.le_of_ble_eq_true rfl⟩) ⟨pcE_b, pcE_u hE hS hA⟩ rfl rfl hl.1 rfl (lv_room (Nat.le_of_ble_eq_true rfl)) dX7_ring_4 ⟨Nat.le_of_ble_eq_true rfl, Nat.le_of_ble_eq_true rfl⟩) hno hlocks hS hO hP (fun hbd => Or.inl ⟨by unfold cdRing; rw [if_pos hbd], rfl⟩) (Nat.le_of_ble_eq_true rfl) (Nat.le_of_ble_eq_true rfl) (fun k0 H locs hS hO hP => ?_)
  refine lv_iload_n hx hb dX7_ring_7 rfl (lv_at hl 2 rfl) ?_
  refine lv_bipush (v := 50) hx hb dX7_ring_8 (by decide) ?_
  refine lv_sipush (v := 1000) hx hb dX7_ring_10 (by decide) ?_
  refine ref_step (vx_runS (As := [.int y, .int (50 : Int32), .int (1000 : Int32)]) (rest := []) ⟨hx, hb, hml, hown, hts⟩ (metX7_refuseOutside l hnt y (50 : Int32) (1000 : Int32)) (va_cwS 3 hts gX7_ring_X7_refuseOutside rfl rfl rfl (by decide +kernel) ⟨Nat.le_of_ble_eq_true rfl, Nat.le_of_ble_eq_true rfl⟩) ⟨pcE_b, pcE_u hE hS hA⟩ rfl rfl hl.1 rfl (lv_room (Nat.le_of_ble_eq_true rfl)) dX7_ring_13 ⟨Nat.le_of_ble_eq_true rfl, Nat.le_of_ble_eq_true rfl⟩) hno hlocks hS hO hP (fun hbd => Or.inl ⟨by unfold cdRing; rw [if_neg k0, if_pos hbd], rfl⟩) (Nat.le_of_ble_eq_true rfl) (Nat.le_of_ble_eq_true rfl) (fun k1 H locs hS hO hP => ?_)
  refine lv_aload_n hx hb dX7_ring_16 rfl (lv_at hl 0 rfl) ?_
  refine va_get (D := G) (ci := 7) (v := .ref aR) (C := RX7) (T := TX7) (N := 7) hx hb hts hiX7 hown hK hP pv hv rfl 2 (by decide) (hts (.fieldLink RX7 23 "Vortexpin" "rings" "Ljava/util/ArrayList;") (List.mem_of_getElem? (i := 1) rfl)) (fun _ h9 => h9) rfl dX7_ring_17 ?_
  obtain ⟨mosz20, aesz20, hLsz20⟩ := lsL_cell hR9
  refine vp_callSi (va_Run.run (va_runV (As := []) (rest := []) ⟨hx, hb, hml, hown, hts⟩ (metSize l G tys _ hR9) (cwV 0 hts gX7_ring_Jx4a65c_size_8abf5 rfl rfl rfl (by decide +kernel) ⟨Nat.le_of_ble_eq_true rfl, Nat.le_of_ble_eq_true rfl⟩) ⟨pcR_b, va_recv hK hP (ci := 0) (q0 := pR) rfl hLsz20, pcR_u hP hK⟩ rfl rfl hl.1 rfl (lv_room (Nat.le_of_ble_eq_true rfl)) dX7_ring_20 ⟨Nat.le_of_ble_eq_true rfl, Nat.le_of_ble_eq_true rfl⟩)) (fun r20 h20 => ?_)
  subst h20
  refine lv_bipush (v := 6) hx hb dX7_ring_23 (by decide) ?_
  refine ref_step (vx_runS (As := [.int (nI nR), .int (6 : Int32)]) (rest := []) ⟨hx, hb, hml, hown, hts⟩ (metX7_refuseFull l hnt (nI nR) (6 : Int32)) (va_cwS 2 hts gX7_ring_X7_refuseFull rfl rfl rfl (by decide +kernel) ⟨Nat.le_of_ble_eq_true rfl, Nat.le_of_ble_eq_true rfl⟩) ⟨pcE_b, pcE_u hE hS hA⟩ rfl rfl hl.1 rfl (lv_room (Nat.le_of_ble_eq_true rfl)) dX7_ring_25 ⟨Nat.le_of_ble_eq_true rfl, Nat.le_of_ble_eq_true rfl⟩) hno hlocks hS hO hP (fun hbd => Or.inr (Or.inl ⟨by unfold cdRing; rw [if_neg k0, if_neg k1, if_pos hbd], rfl⟩)) (Nat.le_of_ble_eq_true rfl) (Nat.le_of_ble_eq_true rfl) (fun k2 H locs hS hO hP => ?_)
  refine lv_aload_n hx hb dX7_ring_28 rfl (lv_at hl 0 rfl) ?_
  refine va_get (D := G) (ci := 7) (v := .ref aR) (C := RX7) (T := TX7) (N := 7) hx hb hts hiX7 hown hK hP pv hv rfl 2 (by decide) (hts (.fieldLink RX7 23 "Vortexpin" "rings" "Ljava/util/ArrayList;") (List.mem_of_getElem? (i := 1) rfl)) (fun _ h9 => h9) rfl dX7_ring_29 ?_
  refine va_new (D := G) (ci := 6) (fs := [.int 0, .int 0, .int 0, .int 0, .int 0]) (C := RX5) (T := TX5) (N := 5) hx hb hts hiX5 tyX5 tyX5_ok hown (hts (.classLink RX7 117 RX5) (List.mem_of_getElem? (i := 2) rfl)) (hts (.instantiable RX5 5) (List.mem_of_getElem? (i := 3) rfl)) (hts (.initialized RX5) (List.mem_of_getElem? (i := 4) rfl)) hK hP hD hS hA rfl (fun j hj => by rcases (show j = 0 ∨ j = 1 ∨ j = 2 ∨ j = 3 ∨ j = 4 by omega) with rfl | rfl | rfl | rfl | rfl <;> rfl) (Nat.le_of_ble_eq_true rfl) (Nat.le_of_ble_eq_true rfl) dX7_ring_32 (fun q32 H hP hD hS => ?_)
  have nq32_hv : pv ≠ (ws).length := Nat.ne_of_lt (pl_lt hv)
  have hv := va_ga (w2 := [(q32, .inr (6, [.int 0, .int 0, .int 0, .int 0, .int 0]))]) hv
  have hq32 : ((ws) ++ ([(q32, .inr (6, [.int 0, .int 0, .int 0, .int 0, .int 0]))] : va_W))[(ws).length]? = some (q32, .inr (6, [.int 0, .int 0, .int 0, .int 0, .int 0])) := va_gn
  refine lv_dup hx hb dX7_ring_35 rfl ?_
  refine lv_iload_n hx hb dX7_ring_36 rfl (lv_at hl 1 rfl) ?_
  refine lv_iload_n hx hb dX7_ring_37 rfl (lv_at hl 2 rfl) ?_
  refine va_callv (va_runI (As := [.int x, .int y]) (rest := [.ref q32, .ref aR]) ⟨hx, hb, hml, hown, hts⟩ (metX5_init l G tys _ hq32 x y) (cwI 2 hts gX7_ring_X5_init rfl rfl rfl (hts (.initialized RX5) (List.mem_of_getElem? (i := 4) rfl)) (hts (.methodLink RX7 119 yX5_init) (List.mem_of_getElem? (i := 22) rfl)) (hts (.instanceMethod yX5_init) (List.mem_of_getElem? (i := 23) rfl)) rfl (by decide +kernel) ⟨Nat.le_of_ble_eq_true rfl, Nat.le_of_ble_eq_true rfl⟩) ⟨pcM_b, pcM_u hP hK hD hS hA⟩ rfl rfl hl.1 rfl (lv_room (Nat.le_of_ble_eq_true rfl)) dX7_ring_38 ⟨Nat.le_of_ble_eq_true rfl, Nat.le_of_ble_eq_true rfl⟩) hS (fun q _ h => h) (fun q h => h) (fun _ t H locs ht hvm hu hB hsz hk1 hS => ?_)
  rw [ht] at hB
  have hD := hD.set (e := .inr (6, [.int x, .int y, .int 0, .int 0, .int 0])) hq32
  rw [va_sn] at hB hD
  have hP := hB
  have hP : va_P G vwCl (ws ++ ([(q32, .inr (6, [.int x, .int y, .int 0, .int 0, .int 0]))] : va_W)) H := hP
  have hD : va_D A (ws ++ ([(q32, .inr (6, [.int x, .int y, .int 0, .int 0, .int 0]))] : va_W)) := hD
  have hq32 : (ws ++ ([(q32, .inr (6, [.int x, .int y, .int 0, .int 0, .int 0]))] : va_W))[ws.length]? = some (q32, .inr (6, [.int x, .int y, .int 0, .int 0, .int 0])) := va_gn
  have hv := va_ga (w2 := [(q32, .inr (6, [.int x, .int y, .int 0, .int 0, .int 0]))]) hv0
  have hls2 := lsL_ga (w2 := [(q32, .inr (6, [.int x, .int y, .int 0, .int 0, .int 0]))]) hR9
  obtain ⟨moA, aeA, hLA⟩ := lsL_cell hls2
  refine va_calli (va_runV (As := [.ref q32]) (rest := []) ⟨hx, hb, hml, hown, hts⟩ (metAdd l G tys _ htO hls2 (Nat.lt_of_lt_of_le (n8 (k := 6) k2 hn60 (by decide)) (by decide)) (ci := 6) rfl (by decide +kernel) (fun i hi => ⟨_, _, va_ga (w2 := [(q32, .inr (6, [.int x, .int y, .int 0, .int 0, .int 0]))]) (hRg i hi)⟩) hq32 (by decide)) (cwV 1 hts gX7_ring_Jx4a65c_add_9ea2d rfl rfl rfl (by decide +kernel) ⟨Nat.le_of_ble_eq_true rfl, Nat.le_of_ble_eq_true rfl⟩) ⟨pcX_b, va_recv hK hP (ci := 0) (q0 := pR) rfl hLA, pcX_u hP hK hD hS hA hE⟩ rfl rfl hl.1 rfl (lv_room (Nat.le_of_ble_eq_true rfl)) dX7_ring_41 ⟨Nat.le_of_ble_eq_true rfl, Nat.le_of_ble_eq_true rfl⟩) hS (fun q _ h => h) (fun q h => h) (fun r41 w2 t H locs ht hvm h41 hB hsz hk1 hS => ?_)
  rw [ht] at hB
  obtain ⟨hP, hD⟩ := hB
  obtain ⟨-, hA2⟩ := h41
  have hA3 := hA2
  obtain ⟨pe2, hS2, -⟩ := hA3
  have hv := lsA_of hls2 hA2 hv (by decide)
  refine lv_pop hx hb dX7_ring_44 rfl ?_
  refine lv_aload_n hx hb dX7_ring_45 rfl (lv_at hl 0 rfl) ?_
  refine va_get (D := G) (ci := 7) (v := .ref aR) (C := RX7) (T := TX7) (N := 7) hx hb hts hiX7 hown hK hP pv hv rfl 2 (by decide) (hts (.fieldLink RX7 23 "Vortexpin" "rings" "Ljava/util/ArrayList;") (List.mem_of_getElem? (i := 1) rfl)) (fun _ h9 => h9) rfl dX7_ring_46 ?_
  obtain ⟨mosz49, aesz49, hLsz49⟩ := lsL_cell hS2
  refine vp_callSi (va_Run.run (va_runV (As := []) (rest := []) ⟨hx, hb, hml, hown, hts⟩ (metSize l G tys _ hS2) (cwV 0 hts gX7_ring_Jx4a65c_size_8abf5 rfl rfl rfl (by decide +kernel) ⟨Nat.le_of_ble_eq_true rfl, Nat.le_of_ble_eq_true rfl⟩) ⟨pcR_b, va_recv hK hP (ci := 0) (q0 := pR) rfl hLsz49, pcR_u hP hK⟩ rfl rfl hl.1 rfl (lv_room (Nat.le_of_ble_eq_true rfl)) dX7_ring_49 ⟨Nat.le_of_ble_eq_true rfl, Nat.le_of_ble_eq_true rfl⟩)) (fun r49 h49 => ?_)
  subst h49
  refine lv_iconst (v := 1) hx hb dX7_ring_52 (by decide) ?_
  refine lv_isub hx hb dX7_ring_53 ?_
  refine W.widen (k := 5) (n := 223) (Nat.le_of_ble_eq_true rfl) (Nat.le_of_ble_eq_true rfl) (vx_ret ?_)
  exact W.iret (v := (nI (nR + 1)) - (1 : Int32)) hx hb hr (fun t ht hW => ⟨⟨(nI (nR + 1)) - (1 : Int32), (q32, w2), rfl, ⟨by unfold cdRing; rw [if_neg k0, if_neg k1, if_neg k2], ⟨nI_m1 _, hA2⟩⟩, by show va_P G vwCl _ t.heap ∧ va_D A _; rw [ht]; exact ⟨hP, hD⟩⟩, hS.F ht⟩) hS.2.2 dX7_ring_54
set_option maxHeartbeats 4000000 in
set_option maxRecDepth 100000 in
theorem metX7_point (l : Launch) (hnt : l.stackTraces = false) (G : va_G) (tys : List (ClassId × FieldType)) {A : Nat → Prop} {tE mi : Nat} (ws : va_W) {cO : ClassId} (htO : tO tys cO) {pv v aS af aR ao ak aP aC : Nat} (hv : ws[pv]? = some (v, .inr (7, [.ref aS, .ref af, .ref aR, .ref ao, .ref ak, .ref aP, .ref aC]))) {pP qP nP : Nat} {eP : Nat → Nat} (hP9 : lsL ws tE cO pP aP nP eP qP) {gP : Nat → Nat} {pt pu pw : Nat → Int32} (hPt : ∀ i, i < nP → ws[gP i]? = some (eP i, .inr (5, [.int (pt i), .int (pu i), .int (pw i)]))) (x y z : Int32) (hn60 : nP ≤ 60) : vx_Met l yX7_point wsX7_point { frames := 8, cells := 6, slots := 227, locals := 225 } (pcX G tys ws A tE mi [.ref v, .int x, .int y, .int z]) (va_Qi (fun (r : Int32) (u : Nat × va_W) => cdPoint x y z (nI nP) = 0 ∧ r = nI (nP + 1) ∧ lsA (ws ++ ([(u.1, .inr (5, [.int x, .int y, .int z]))] : va_W)) tE cO pP aP nP eP qP u.1 u.2) (fun u t => va_P G vwCl (u.2) t.heap ∧ va_D A (u.2)) A) (xcT (fun E => xC (cdPoint x y z (nI nP)) eIA eIS "" E)) 6 227 A := by
  refine ofX (cc := cX7_point) (maxL := 4) (ret := some .int) (by decide) rfl (Nat.le_of_ble_eq_true rfl) ?_
  intro p e s m below meth c ls hx hb hr hlocks hml hown hts hno hl hP hK hD hA hS hE
  have hown : s.vm.findClass RX7 = some m.cls := hown
  have hiX4 : ∀ w ∈ u_ws RX4 TX4 3, w ∈ wsX7_point := fun _ h => List.mem_cons_of_mem _ (List.mem_append_left _ (List.mem_append_left _ (List.mem_append_left _ (List.mem_append_right _ h))))
  have hiX7 : ∀ w ∈ u_ws RX7 TX7 7, w ∈ wsX7_point := fun _ h => List.mem_cons_of_mem _ (List.mem_append_left _ (List.mem_append_left _ (List.mem_append_left _ (List.mem_append_left _ (List.mem_append_right _ h)))))
  have hl : lv_has ls 4 [(0, .ref v), (1, .int x), (2, .int y), (3, .int z)] := hl
  have hO : okO s s.heap := ⟨Nat.le_refl _, fun _ _ => rfl⟩
  have hv0 := hv
  refine lv_iload_n hx hb dX7_point_0 rfl (lv_at hl 1 rfl) ?_
  refine lv_iconst (v := 0) hx hb dX7_point_1 (by decide) ?_
  refine lv_sipush (v := 300) hx hb dX7_point_2 (by decide) ?_
  refine ref_step (vx_runS (As := [.int x, .int (0 : Int32), .int (300 : Int32)]) (rest := []) ⟨hx, hb, hml, hown, hts⟩ (metX7_refuseOutside l hnt x (0 : Int32) (300 : Int32)) (va_cwS 3 hts gX7_point_X7_refuseOutside rfl rfl rfl (by decide +kernel) ⟨Nat.le_of_ble_eq_true rfl, Nat.le_of_ble_eq_true rfl⟩) ⟨pcE_b, pcE_u hE hS hA⟩ rfl rfl hl.1 rfl (lv_room (Nat.le_of_ble_eq_true rfl)) dX7_point_5 ⟨Nat.le_of_ble_eq_true rfl, Nat.le_of_ble_eq_true rfl⟩) hno hlocks hS hO hP (fun hbd => Or.inl ⟨by unfold cdPoint; rw [if_pos hbd], rfl⟩) (Nat.le_of_ble_eq_true rfl) (Nat.le_of_ble_eq_true rfl) (fun k0 H locs hS hO hP => ?_)
  refine lv_iload_n hx hb dX7_point_8 rfl (lv_at hl 2 rfl) ?_
  refine lv_sipush (v := -1000) hx hb dX7_point_9 (by decide) ?_
  refine lv_sipush (v := 1000) hx hb dX7_point_12 (by decide) ?_
  refine ref_step (vx_runS (As := [.int y, .int (-1000 : Int32), .int (1000 : Int32)]) (rest := []) ⟨hx, hb, hml, hown, hts⟩ (metX7_refuseOutside l hnt y (-1000 : Int32) (1000 : Int32)) (va_cwS 3 hts gX7_point_X7_refuseOutside rfl rfl rfl (by decide +kernel) ⟨Nat.le_of_ble_eq_true rfl, Nat.le_of_ble_eq_true rfl⟩) ⟨pcE_b, pcE_u hE hS hA⟩ rfl rfl hl.1 rfl (lv_room (Nat.le_of_ble_eq_true rfl)) dX7_point_15 ⟨Nat.le_of_ble_eq_true rfl, Nat.le_of_ble_eq_true rfl⟩) hno hlocks hS hO hP (fun hbd => Or.inl ⟨by unfold cdPoint; rw [if_neg k0, if_pos hbd], rfl⟩) (Nat.le_of_ble_eq_true rfl) (Nat.le_of_ble_eq_true rfl) (fun k1 H locs hS hO hP => ?_)
  refine lv_iload_n hx hb dX7_point_18 rfl (lv_at hl 3 rfl) ?_
  refine lv_ldc (v := -1000000) hx hb hown (hts (.constant RX7 121 (-1000000)) (List.mem_of_getElem? (i := 1) rfl)) dX7_point_19 ?_
  refine lv_ldc (v := 1000000) hx hb hown (hts (.constant RX7 122 (1000000)) (List.mem_of_getElem? (i := 2) rfl)) dX7_point_21 ?_
  refine ref_step (vx_runS (As := [.int z, .int (-1000000 : Int32), .int (1000000 : Int32)]) (rest := []) ⟨hx, hb, hml, hown, hts⟩ (metX7_refuseOutside l hnt z (-1000000 : Int32) (1000000 : Int32)) (va_cwS 3 hts gX7_point_X7_refuseOutside rfl rfl rfl (by decide +kernel) ⟨Nat.le_of_ble_eq_true rfl, Nat.le_of_ble_eq_true rfl⟩) ⟨pcE_b, pcE_u hE hS hA⟩ rfl rfl hl.1 rfl (lv_room (Nat.le_of_ble_eq_true rfl)) dX7_point_23 ⟨Nat.le_of_ble_eq_true rfl, Nat.le_of_ble_eq_true rfl⟩) hno hlocks hS hO hP (fun hbd => Or.inl ⟨by unfold cdPoint; rw [if_neg k0, if_neg k1, if_pos hbd], rfl⟩) (Nat.le_of_ble_eq_true rfl) (Nat.le_of_ble_eq_true rfl) (fun k2 H locs hS hO hP => ?_)
  refine lv_aload_n hx hb dX7_point_26 rfl (lv_at hl 0 rfl) ?_
  refine va_get (D := G) (ci := 7) (v := .ref aP) (C := RX7) (T := TX7) (N := 7) hx hb hts hiX7 hown hK hP pv hv rfl 5 (by decide) (hts (.fieldLink RX7 40 "Vortexpin" "points" "Ljava/util/ArrayList;") (List.mem_of_getElem? (i := 3) rfl)) (fun _ h9 => h9) rfl dX7_point_27 ?_
  obtain ⟨mosz30, aesz30, hLsz30⟩ := lsL_cell hP9
  refine vp_callSi (va_Run.run (va_runV (As := []) (rest := []) ⟨hx, hb, hml, hown, hts⟩ (metSize l G tys _ hP9) (cwV 0 hts gX7_point_Jx4a65c_size_8abf5 rfl rfl rfl (by decide +kernel) ⟨Nat.le_of_ble_eq_true rfl, Nat.le_of_ble_eq_true rfl⟩) ⟨pcR_b, va_recv hK hP (ci := 0) (q0 := pP) rfl hLsz30, pcR_u hP hK⟩ rfl rfl hl.1 rfl (lv_room (Nat.le_of_ble_eq_true rfl)) dX7_point_30 ⟨Nat.le_of_ble_eq_true rfl, Nat.le_of_ble_eq_true rfl⟩)) (fun r30 h30 => ?_)
  subst h30
  refine lv_bipush (v := 60) hx hb dX7_point_33 (by decide) ?_
  refine ref_step (vx_runS (As := [.int (nI nP), .int (60 : Int32)]) (rest := []) ⟨hx, hb, hml, hown, hts⟩ (metX7_refuseFull l hnt (nI nP) (60 : Int32)) (va_cwS 2 hts gX7_point_X7_refuseFull rfl rfl rfl (by decide +kernel) ⟨Nat.le_of_ble_eq_true rfl, Nat.le_of_ble_eq_true rfl⟩) ⟨pcE_b, pcE_u hE hS hA⟩ rfl rfl hl.1 rfl (lv_room (Nat.le_of_ble_eq_true rfl)) dX7_point_35 ⟨Nat.le_of_ble_eq_true rfl, Nat.le_of_ble_eq_true rfl⟩) hno hlocks hS hO hP (fun hbd => Or.inr (Or.inl ⟨by unfold cdPoint; rw [if_neg k0, if_neg k1, if_neg k2, if_pos hbd], rfl⟩)) (Nat.le_of_ble_eq_true rfl) (Nat.le_of_ble_eq_true rfl) (fun k3 H locs hS hO hP => ?_)
  refine lv_aload_n hx hb dX7_point_38 rfl (lv_at hl 0 rfl) ?_
  refine va_get (D := G) (ci := 7) (v := .ref aP) (C := RX7) (T := TX7) (N := 7) hx hb hts hiX7 hown hK hP pv hv rfl 5 (by decide) (hts (.fieldLink RX7 40 "Vortexpin" "points" "Ljava/util/ArrayList;") (List.mem_of_getElem? (i := 3) rfl)) (fun _ h9 => h9) rfl dX7_point_39 ?_
  refine va_new (D := G) (ci := 5) (fs := [.int 0, .int 0, .int 0]) (C := RX4) (T := TX4) (N := 3) hx hb hts hiX4 tyX4 tyX4_ok hown (hts (.classLink RX7 191 RX4) (List.mem_of_getElem? (i := 4) rfl)) (hts (.instantiable RX4 3) (List.mem_of_getElem? (i := 5) rfl)) (hts (.initialized RX4) (List.mem_of_getElem? (i := 6) rfl)) hK hP hD hS hA rfl (fun j hj => by rcases (show j = 0 ∨ j = 1 ∨ j = 2 by omega) with rfl | rfl | rfl <;> rfl) (Nat.le_of_ble_eq_true rfl) (Nat.le_of_ble_eq_true rfl) dX7_point_42 (fun q42 H hP hD hS => ?_)
  have nq42_hv : pv ≠ (ws).length := Nat.ne_of_lt (pl_lt hv)
  have hv := va_ga (w2 := [(q42, .inr (5, [.int 0, .int 0, .int 0]))]) hv
  have hq42 : ((ws) ++ ([(q42, .inr (5, [.int 0, .int 0, .int 0]))] : va_W))[(ws).length]? = some (q42, .inr (5, [.int 0, .int 0, .int 0])) := va_gn
  refine lv_dup hx hb dX7_point_45 rfl ?_
  refine lv_iload_n hx hb dX7_point_46 rfl (lv_at hl 1 rfl) ?_
  refine lv_iload_n hx hb dX7_point_47 rfl (lv_at hl 2 rfl) ?_
  refine lv_iload_n hx hb dX7_point_48 rfl (lv_at hl 3 rfl) ?_
  refine va_callv (va_runI (As := [.int x, .int y, .int z]) (rest := [.ref q42, .ref aP]) ⟨hx, hb, hml, hown, hts⟩ (metX4_init l G tys _ hq42 x y z) (cwI 3 hts gX7_point_X4_init rfl rfl rfl (hts (.initialized RX4) (List.mem_of_getElem? (i := 6) rfl)) (hts (.methodLink RX7 193 yX4_init) (List.mem_of_getElem? (i := 24) rfl)) (hts (.instanceMethod yX4_init) (List.mem_of_getElem? (i := 25) rfl)) rfl (by decide +kernel) ⟨Nat.le_of_ble_eq_true rfl, Nat.le_of_ble_eq_true rfl⟩) ⟨pcM_b, pcM_u hP hK hD hS hA⟩ rfl rfl hl.1 rfl (lv_room (Nat.le_of_ble_eq_true rfl)) dX7_point_49 ⟨Nat.le_of_ble_eq_true rfl, Nat.le_of_ble_eq_true rfl⟩) hS (fun q _ h => h) (fun q h => h) (fun _ t H locs ht hvm hu hB hsz hk1 hS => ?_)
  rw [ht] at hB
  have hD := hD.set (e := .inr (5, [.int x, .int y, .int z])) hq42
  rw [va_sn] at hB hD
  have hP := hB
  have hP : va_P G vwCl (ws ++ ([(q42, .inr (5, [.int x, .int y, .int z]))] : va_W)) H := hP
  have hD : va_D A (ws ++ ([(q42, .inr (5, [.int x, .int y, .int z]))] : va_W)) := hD
  have hq42 : (ws ++ ([(q42, .inr (5, [.int x, .int y, .int z]))] : va_W))[ws.length]? = some (q42, .inr (5, [.int x, .int y, .int z])) := va_gn
  have hv := va_ga (w2 := [(q42, .inr (5, [.int x, .int y, .int z]))]) hv0
  have hls2 := lsL_ga (w2 := [(q42, .inr (5, [.int x, .int y, .int z]))]) hP9
  obtain ⟨moA, aeA, hLA⟩ := lsL_cell hls2
  refine va_calli (va_runV (As := [.ref q42]) (rest := []) ⟨hx, hb, hml, hown, hts⟩ (metAdd l G tys _ htO hls2 (Nat.lt_of_lt_of_le (n8 (k := 60) k3 hn60 (by decide)) (by decide)) (ci := 5) rfl (by decide +kernel) (fun i hi => ⟨_, _, va_ga (w2 := [(q42, .inr (5, [.int x, .int y, .int z]))]) (hPt i hi)⟩) hq42 (by decide)) (cwV 1 hts gX7_point_Jx4a65c_add_9ea2d rfl rfl rfl (by decide +kernel) ⟨Nat.le_of_ble_eq_true rfl, Nat.le_of_ble_eq_true rfl⟩) ⟨pcX_b, va_recv hK hP (ci := 0) (q0 := pP) rfl hLA, pcX_u hP hK hD hS hA hE⟩ rfl rfl hl.1 rfl (lv_room (Nat.le_of_ble_eq_true rfl)) dX7_point_52 ⟨Nat.le_of_ble_eq_true rfl, Nat.le_of_ble_eq_true rfl⟩) hS (fun q _ h => h) (fun q h => h) (fun r52 w2 t H locs ht hvm h52 hB hsz hk1 hS => ?_)
  rw [ht] at hB
  obtain ⟨hP, hD⟩ := hB
  obtain ⟨-, hA2⟩ := h52
  have hA3 := hA2
  obtain ⟨pe2, hS2, -⟩ := hA3
  have hv := lsA_of hls2 hA2 hv (by decide)
  refine lv_pop hx hb dX7_point_55 rfl ?_
  refine lv_aload_n hx hb dX7_point_56 rfl (lv_at hl 0 rfl) ?_
  refine va_get (D := G) (ci := 7) (v := .ref aP) (C := RX7) (T := TX7) (N := 7) hx hb hts hiX7 hown hK hP pv hv rfl 5 (by decide) (hts (.fieldLink RX7 40 "Vortexpin" "points" "Ljava/util/ArrayList;") (List.mem_of_getElem? (i := 3) rfl)) (fun _ h9 => h9) rfl dX7_point_57 ?_
  obtain ⟨mosz60, aesz60, hLsz60⟩ := lsL_cell hS2
  refine vp_callSi (va_Run.run (va_runV (As := []) (rest := []) ⟨hx, hb, hml, hown, hts⟩ (metSize l G tys _ hS2) (cwV 0 hts gX7_point_Jx4a65c_size_8abf5 rfl rfl rfl (by decide +kernel) ⟨Nat.le_of_ble_eq_true rfl, Nat.le_of_ble_eq_true rfl⟩) ⟨pcR_b, va_recv hK hP (ci := 0) (q0 := pP) rfl hLsz60, pcR_u hP hK⟩ rfl rfl hl.1 rfl (lv_room (Nat.le_of_ble_eq_true rfl)) dX7_point_60 ⟨Nat.le_of_ble_eq_true rfl, Nat.le_of_ble_eq_true rfl⟩)) (fun r60 h60 => ?_)
  subst h60
  refine W.widen (k := 6) (n := 227) (Nat.le_of_ble_eq_true rfl) (Nat.le_of_ble_eq_true rfl) (vx_ret ?_)
  exact W.iret (v := nI (nP + 1)) hx hb hr (fun t ht hW => ⟨⟨nI (nP + 1), (q42, w2), rfl, ⟨by unfold cdPoint; rw [if_neg k0, if_neg k1, if_neg k2, if_neg k3], ⟨rfl, hA2⟩⟩, by show va_P G vwCl _ t.heap ∧ va_D A _; rw [ht]; exact ⟨hP, hD⟩⟩, hS.F ht⟩) hS.2.2 dX7_point_63
set_option maxHeartbeats 4000000 in
set_option maxRecDepth 100000 in
theorem metX7_claim (l : Launch) (hnt : l.stackTraces = false) (G : va_G) (tys : List (ClassId × FieldType)) {A : Nat → Prop} {tE mi : Nat} {cI : ClassId} (htI : tI tys cI) (ws : va_W) {cO : ClassId} (htO : tO tys cO) {pv v aS af aR ao ak aP aC : Nat} (hv : ws[pv]? = some (v, .inr (7, [.ref aS, .ref af, .ref aR, .ref ao, .ref ak, .ref aP, .ref aC]))) {pP qP nP : Nat} {eP : Nat → Nat} (hP9 : lsL ws tE cO pP aP nP eP qP) {gP : Nat → Nat} {pt pu pw : Nat → Int32} (hPt : ∀ i, i < nP → ws[gP i]? = some (eP i, .inr (5, [.int (pt i), .int (pu i), .int (pw i)]))) {pC qC nC : Nat} {eC : Nat → Nat} (hC9 : lsL ws tE cO pC aC nC eC qC) {gC gW aW : Nat → Nat} {ct cf co2 ca : Nat → Int32} {wd : Nat → Nat → Int32} (hCl : ∀ i, i < nC → ws[gC i]? = some (eC i, .inr (1, [.int (ct i), .int (cf i), .int (co2 i), .int (ca i), .ref (aW i)]))) (hWd : ∀ i, i < nC → ws[gW i]? = some (aW i, .inl (cI, 7, .inl (wd i)))) (x fr to : Int32) (hn60 : nC ≤ 60) : vx_Met l yX7_claim wsX7_claim { frames := 8, cells := 8, slots := 242, locals := 225 } (pcX G tys ws A tE mi [.ref v, .int x, .int fr, .int to]) (va_Qi (fun (r : Int32) (u : Nat × Nat × va_W) => cdClaim x fr to (nI nP) (nI nC) = 0 ∧ r = nI nC ∧ lsA (ws ++ ([(u.1, .inr (1, [.int x, .int fr, .int to, .int (nI nP), .ref u.2.1])), (u.2.1, .inl (cI, 7, .inl (fun _ => 0)))] : va_W)) tE cO pC aC nC eC qC u.1 u.2.2) (fun u t => va_P G vwCl (u.2.2) t.heap ∧ va_D A (u.2.2)) A) (xcT (fun E => xC (cdClaim x fr to (nI nP) (nI nC)) eIB eIA eIS E)) 8 242 A := by
  refine ofX (cc := cX7_claim) (maxL := 4) (ret := some .int) (by decide) rfl (Nat.le_of_ble_eq_true rfl) ?_
  intro p e s m below meth c ls hx hb hr hlocks hml hown hts hno hl hP hK hD hA hS hE
  have hown : s.vm.findClass RX7 = some m.cls := hown
  have hiX0 : ∀ w ∈ u_ws RX0 TX0 5, w ∈ wsX7_claim := fun _ h => List.mem_cons_of_mem _ (List.mem_append_left _ (List.mem_append_left _ (List.mem_append_left _ (List.mem_append_left _ (List.mem_append_right _ h)))))
  have hiX7 : ∀ w ∈ u_ws RX7 TX7 7, w ∈ wsX7_claim := fun _ h => List.mem_cons_of_mem _ (List.mem_append_left _ (List.mem_append_left _ (List.mem_append_left _ (List.mem_append_left _ (List.mem_append_left _ (List.mem_append_right _ h))))))
  have hl : lv_has ls 4 [(0, .ref v), (1, .int x), (2, .int fr), (3, .int to)] := hl
  have hO : okO s s.heap := ⟨Nat.le_refl _, fun _ _ => rfl⟩
  have hv0 := hv
  refine lv_iload_n hx hb dX7_claim_0 rfl (lv_at hl 2 rfl) ?_
  refine lv_aload_n hx hb dX7_claim_1 rfl (lv_at hl 0 rfl) ?_
  refine va_get (D := G) (ci := 7) (v := .ref aP) (C := RX7) (T := TX7) (N := 7) hx hb hts hiX7 hown hK hP pv hv rfl 5 (by decide) (hts (.fieldLink RX7 40 "Vortexpin" "points" "Ljava/util/ArrayList;") (List.mem_of_getElem? (i := 1) rfl)) (fun _ h9 => h9) rfl dX7_claim_2 ?_
  obtain ⟨mosz5, aesz5, hLsz5⟩ := lsL_cell hP9
  refine vp_callSi (va_Run.run (va_runV (As := []) (rest := [.int fr]) ⟨hx, hb, hml, hown, hts⟩ (metSize l G tys _ hP9) (cwV 0 hts gX7_claim_Jx4a65c_size_8abf5 rfl rfl rfl (by decide +kernel) ⟨Nat.le_of_ble_eq_true rfl, Nat.le_of_ble_eq_true rfl⟩) ⟨pcR_b, va_recv hK hP (ci := 0) (q0 := pP) rfl hLsz5, pcR_u hP hK⟩ rfl rfl hl.1 rfl (lv_room (Nat.le_of_ble_eq_true rfl)) dX7_claim_5 ⟨Nat.le_of_ble_eq_true rfl, Nat.le_of_ble_eq_true rfl⟩)) (fun r5 h5 => ?_)
  subst h5
  refine ref_step (vx_runS (As := [.int fr, .int (nI nP)]) (rest := []) ⟨hx, hb, hml, hown, hts⟩ (metX7_refuseUnknown l hnt fr (nI nP)) (va_cwS 2 hts gX7_claim_X7_refuseUnknown rfl rfl rfl (by decide +kernel) ⟨Nat.le_of_ble_eq_true rfl, Nat.le_of_ble_eq_true rfl⟩) ⟨pcE_b, pcE_u hE hS hA⟩ rfl rfl hl.1 rfl (lv_room (Nat.le_of_ble_eq_true rfl)) dX7_claim_8 ⟨Nat.le_of_ble_eq_true rfl, Nat.le_of_ble_eq_true rfl⟩) hno hlocks hS hO hP (fun hbd => Or.inl ⟨by unfold cdClaim; rw [if_pos hbd], rfl⟩) (Nat.le_of_ble_eq_true rfl) (Nat.le_of_ble_eq_true rfl) (fun k0 H locs hS hO hP => ?_)
  refine lv_iload_n hx hb dX7_claim_11 rfl (lv_at hl 3 rfl) ?_
  refine lv_aload_n hx hb dX7_claim_12 rfl (lv_at hl 0 rfl) ?_
  refine va_get (D := G) (ci := 7) (v := .ref aP) (C := RX7) (T := TX7) (N := 7) hx hb hts hiX7 hown hK hP pv hv rfl 5 (by decide) (hts (.fieldLink RX7 40 "Vortexpin" "points" "Ljava/util/ArrayList;") (List.mem_of_getElem? (i := 1) rfl)) (fun _ h9 => h9) rfl dX7_claim_13 ?_
  obtain ⟨mosz16, aesz16, hLsz16⟩ := lsL_cell hP9
  refine vp_callSi (va_Run.run (va_runV (As := []) (rest := [.int to]) ⟨hx, hb, hml, hown, hts⟩ (metSize l G tys _ hP9) (cwV 0 hts gX7_claim_Jx4a65c_size_8abf5 rfl rfl rfl (by decide +kernel) ⟨Nat.le_of_ble_eq_true rfl, Nat.le_of_ble_eq_true rfl⟩) ⟨pcR_b, va_recv hK hP (ci := 0) (q0 := pP) rfl hLsz16, pcR_u hP hK⟩ rfl rfl hl.1 rfl (lv_room (Nat.le_of_ble_eq_true rfl)) dX7_claim_16 ⟨Nat.le_of_ble_eq_true rfl, Nat.le_of_ble_eq_true rfl⟩)) (fun r16 h16 => ?_)
  subst h16
  refine ref_step (vx_runS (As := [.int to, .int (nI nP)]) (rest := []) ⟨hx, hb, hml, hown, hts⟩ (metX7_refuseUnknown l hnt to (nI nP)) (va_cwS 2 hts gX7_claim_X7_refuseUnknown rfl rfl rfl (by decide +kernel) ⟨Nat.le_of_ble_eq_true rfl, Nat.le_of_ble_eq_true rfl⟩) ⟨pcE_b, pcE_u hE hS hA⟩ rfl rfl hl.1 rfl (lv_room (Nat.le_of_ble_eq_true rfl)) dX7_claim_19 ⟨Nat.le_of_ble_eq_true rfl, Nat.le_of_ble_eq_true rfl⟩) hno hlocks hS hO hP (fun hbd => Or.inl ⟨by unfold cdClaim; rw [if_neg k0, if_pos hbd], rfl⟩) (Nat.le_of_ble_eq_true rfl) (Nat.le_of_ble_eq_true rfl) (fun k1 H locs hS hO hP => ?_)
  refine lv_iload_n hx hb dX7_claim_22 rfl (lv_at hl 1 rfl) ?_
  refine lv_iconst (v := 1) hx hb dX7_claim_23 (by decide) ?_
  refine lv_sipush (v := 300) hx hb dX7_claim_24 (by decide) ?_
  refine ref_step (vx_runS (As := [.int x, .int (1 : Int32), .int (300 : Int32)]) (rest := []) ⟨hx, hb, hml, hown, hts⟩ (metX7_refuseOutside l hnt x (1 : Int32) (300 : Int32)) (va_cwS 3 hts gX7_claim_X7_refuseOutside rfl rfl rfl (by decide +kernel) ⟨Nat.le_of_ble_eq_true rfl, Nat.le_of_ble_eq_true rfl⟩) ⟨pcE_b, pcE_u hE hS hA⟩ rfl rfl hl.1 rfl (lv_room (Nat.le_of_ble_eq_true rfl)) dX7_claim_27 ⟨Nat.le_of_ble_eq_true rfl, Nat.le_of_ble_eq_true rfl⟩) hno hlocks hS hO hP (fun hbd => Or.inr (Or.inl ⟨by unfold cdClaim; rw [if_neg k0, if_neg k1, if_pos hbd], rfl⟩)) (Nat.le_of_ble_eq_true rfl) (Nat.le_of_ble_eq_true rfl) (fun k2 H locs hS hO hP => ?_)
  refine lv_iload_n hx hb dX7_claim_30 rfl (lv_at hl 3 rfl) ?_
  refine lv_iload_n hx hb dX7_claim_31 rfl (lv_at hl 2 rfl) ?_
  refine lv_aload_n hx hb dX7_claim_32 rfl (lv_at hl 0 rfl) ?_
  refine va_get (D := G) (ci := 7) (v := .ref aP) (C := RX7) (T := TX7) (N := 7) hx hb hts hiX7 hown hK hP pv hv rfl 5 (by decide) (hts (.fieldLink RX7 40 "Vortexpin" "points" "Ljava/util/ArrayList;") (List.mem_of_getElem? (i := 1) rfl)) (fun _ h9 => h9) rfl dX7_claim_33 ?_
  obtain ⟨mosz36, aesz36, hLsz36⟩ := lsL_cell hP9
  refine vp_callSi (va_Run.run (va_runV (As := []) (rest := [.int fr, .int to]) ⟨hx, hb, hml, hown, hts⟩ (metSize l G tys _ hP9) (cwV 0 hts gX7_claim_Jx4a65c_size_8abf5 rfl rfl rfl (by decide +kernel) ⟨Nat.le_of_ble_eq_true rfl, Nat.le_of_ble_eq_true rfl⟩) ⟨pcR_b, va_recv hK hP (ci := 0) (q0 := pP) rfl hLsz36, pcR_u hP hK⟩ rfl rfl hl.1 rfl (lv_room (Nat.le_of_ble_eq_true rfl)) dX7_claim_36 ⟨Nat.le_of_ble_eq_true rfl, Nat.le_of_ble_eq_true rfl⟩)) (fun r36 h36 => ?_)
  subst h36
  refine lv_iconst (v := 1) hx hb dX7_claim_39 (by decide) ?_
  refine lv_isub hx hb dX7_claim_40 ?_
  refine ref_step (vx_runS (As := [.int to, .int fr, .int ((nI nP) - (1 : Int32))]) (rest := []) ⟨hx, hb, hml, hown, hts⟩ (metX7_refuseOutside l hnt to fr ((nI nP) - (1 : Int32))) (va_cwS 3 hts gX7_claim_X7_refuseOutside rfl rfl rfl (by decide +kernel) ⟨Nat.le_of_ble_eq_true rfl, Nat.le_of_ble_eq_true rfl⟩) ⟨pcE_b, pcE_u hE hS hA⟩ rfl rfl hl.1 rfl (lv_room (Nat.le_of_ble_eq_true rfl)) dX7_claim_41 ⟨Nat.le_of_ble_eq_true rfl, Nat.le_of_ble_eq_true rfl⟩) hno hlocks hS hO hP (fun hbd => Or.inr (Or.inl ⟨by unfold cdClaim; rw [if_neg k0, if_neg k1, if_neg k2, if_pos hbd], rfl⟩)) (Nat.le_of_ble_eq_true rfl) (Nat.le_of_ble_eq_true rfl) (fun k3 H locs hS hO hP => ?_)
  refine lv_aload_n hx hb dX7_claim_44 rfl (lv_at hl 0 rfl) ?_
  refine va_get (D := G) (ci := 7) (v := .ref aC) (C := RX7) (T := TX7) (N := 7) hx hb hts hiX7 hown hK hP pv hv rfl 6 (by decide) (hts (.fieldLink RX7 43 "Vortexpin" "claims" "Ljava/util/ArrayList;") (List.mem_of_getElem? (i := 2) rfl)) (fun _ h9 => h9) rfl dX7_claim_45 ?_
  obtain ⟨mosz48, aesz48, hLsz48⟩ := lsL_cell hC9
  refine vp_callSi (va_Run.run (va_runV (As := []) (rest := []) ⟨hx, hb, hml, hown, hts⟩ (metSize l G tys _ hC9) (cwV 0 hts gX7_claim_Jx4a65c_size_8abf5 rfl rfl rfl (by decide +kernel) ⟨Nat.le_of_ble_eq_true rfl, Nat.le_of_ble_eq_true rfl⟩) ⟨pcR_b, va_recv hK hP (ci := 0) (q0 := pC) rfl hLsz48, pcR_u hP hK⟩ rfl rfl hl.1 rfl (lv_room (Nat.le_of_ble_eq_true rfl)) dX7_claim_48 ⟨Nat.le_of_ble_eq_true rfl, Nat.le_of_ble_eq_true rfl⟩)) (fun r48 h48 => ?_)
  subst h48
  refine lv_bipush (v := 8) hx hb dX7_claim_51 (by decide) ?_
  refine ref_step (vx_runS (As := [.int (nI nC), .int (8 : Int32)]) (rest := []) ⟨hx, hb, hml, hown, hts⟩ (metX7_refuseFull l hnt (nI nC) (8 : Int32)) (va_cwS 2 hts gX7_claim_X7_refuseFull rfl rfl rfl (by decide +kernel) ⟨Nat.le_of_ble_eq_true rfl, Nat.le_of_ble_eq_true rfl⟩) ⟨pcE_b, pcE_u hE hS hA⟩ rfl rfl hl.1 rfl (lv_room (Nat.le_of_ble_eq_true rfl)) dX7_claim_53 ⟨Nat.le_of_ble_eq_true rfl, Nat.le_of_ble_eq_true rfl⟩) hno hlocks hS hO hP (fun hbd => Or.inr (Or.inr ⟨by unfold cdClaim; rw [if_neg k0, if_neg k1, if_neg k2, if_neg k3, if_pos hbd], rfl⟩)) (Nat.le_of_ble_eq_true rfl) (Nat.le_of_ble_eq_true rfl) (fun k4 H locs hS hO hP => ?_)
  refine lv_aload_n hx hb dX7_claim_56 rfl (lv_at hl 0 rfl) ?_
  refine va_get (D := G) (ci := 7) (v := .ref aC) (C := RX7) (T := TX7) (N := 7) hx hb hts hiX7 hown hK hP pv hv rfl 6 (by decide) (hts (.fieldLink RX7 43 "Vortexpin" "claims" "Ljava/util/ArrayList;") (List.mem_of_getElem? (i := 2) rfl)) (fun _ h9 => h9) rfl dX7_claim_57 ?_
  refine va_new (D := G) (ci := 1) (fs := [.int 0, .int 0, .int 0, .int 0, .null]) (C := RX0) (T := TX0) (N := 5) hx hb hts hiX0 tyX0 tyX0_ok hown (hts (.classLink RX7 194 RX0) (List.mem_of_getElem? (i := 3) rfl)) (hts (.instantiable RX0 5) (List.mem_of_getElem? (i := 4) rfl)) (hts (.initialized RX0) (List.mem_of_getElem? (i := 5) rfl)) hK hP hD hS hA rfl (fun j hj => by rcases (show j = 0 ∨ j = 1 ∨ j = 2 ∨ j = 3 ∨ j = 4 by omega) with rfl | rfl | rfl | rfl | rfl <;> rfl) (Nat.le_of_ble_eq_true rfl) (Nat.le_of_ble_eq_true rfl) dX7_claim_60 (fun q60 H hP hD hS => ?_)
  have nq60_hv : pv ≠ (ws).length := Nat.ne_of_lt (pl_lt hv)
  have hv := va_ga (w2 := [(q60, .inr (1, [.int 0, .int 0, .int 0, .int 0, .null]))]) hv
  have hq60 : ((ws) ++ ([(q60, .inr (1, [.int 0, .int 0, .int 0, .int 0, .null]))] : va_W))[(ws).length]? = some (q60, .inr (1, [.int 0, .int 0, .int 0, .int 0, .null])) := va_gn
  refine lv_dup hx hb dX7_claim_63 rfl ?_
  refine lv_iload_n hx hb dX7_claim_64 rfl (lv_at hl 1 rfl) ?_
  refine lv_iload_n hx hb dX7_claim_65 rfl (lv_at hl 2 rfl) ?_
  refine lv_iload_n hx hb dX7_claim_66 rfl (lv_at hl 3 rfl) ?_
  refine lv_aload_n hx hb dX7_claim_67 rfl (lv_at hl 0 rfl) ?_
  refine va_get (D := G) (ci := 7) (v := .ref aP) (C := RX7) (T := TX7) (N := 7) hx hb hts hiX7 hown hK hP pv hv rfl 5 (by decide) (hts (.fieldLink RX7 40 "Vortexpin" "points" "Ljava/util/ArrayList;") (List.mem_of_getElem? (i := 1) rfl)) (fun _ h9 => h9) rfl dX7_claim_68 ?_
  obtain ⟨mosz71, aesz71, hLsz71⟩ := lsL_cell (lsL_ga (w2 := [(q60, .inr (1, [.int 0, .int 0, .int 0, .int 0, .null]))]) hP9)
  refine vp_callSi (va_Run.run (va_runV (As := []) (rest := [.int to, .int fr, .int x, .ref q60, .ref q60, .ref aC]) ⟨hx, hb, hml, hown, hts⟩ (metSize l G tys _ (lsL_ga (w2 := [(q60, .inr (1, [.int 0, .int 0, .int 0, .int 0, .null]))]) hP9)) (cwV 0 hts gX7_claim_Jx4a65c_size_8abf5 rfl rfl rfl (by decide +kernel) ⟨Nat.le_of_ble_eq_true rfl, Nat.le_of_ble_eq_true rfl⟩) ⟨pcR_b, va_recv hK hP (ci := 0) (q0 := pP) rfl hLsz71, pcR_u hP hK⟩ rfl rfl hl.1 rfl (lv_room (Nat.le_of_ble_eq_true rfl)) dX7_claim_71 ⟨Nat.le_of_ble_eq_true rfl, Nat.le_of_ble_eq_true rfl⟩)) (fun r71 h71 => ?_)
  subst h71
  refine va_callv (va_runI (As := [.int x, .int fr, .int to, .int (nI nP)]) (rest := [.ref q60, .ref aC]) ⟨hx, hb, hml, hown, hts⟩ (metX0_init l G tys htI _ hq60 x fr to (nI nP)) (cwI 4 hts gX7_claim_X0_init rfl rfl rfl (hts (.initialized RX0) (List.mem_of_getElem? (i := 5) rfl)) (hts (.methodLink RX7 196 yX0_init) (List.mem_of_getElem? (i := 28) rfl)) (hts (.instanceMethod yX0_init) (List.mem_of_getElem? (i := 29) rfl)) rfl (by decide +kernel) ⟨Nat.le_of_ble_eq_true rfl, Nat.le_of_ble_eq_true rfl⟩) ⟨pcM_b, pcM_u hP hK hD hS hA⟩ rfl rfl hl.1 rfl (lv_room (Nat.le_of_ble_eq_true rfl)) dX7_claim_74 ⟨Nat.le_of_ble_eq_true rfl, Nat.le_of_ble_eq_true rfl⟩) hS (fun q _ h => h) (fun q h => h) (fun z t H locs ht hvm hu hB hsz hk1 hS => ?_)
  rw [ht] at hB
  obtain ⟨hP, hD⟩ := hB
  rw [w_claim] at hP hD
  have hP : va_P G vwCl (ws ++ ([(q60, .inr (1, [.int x, .int fr, .int to, .int (nI nP), .ref z])), (z, .inl (cI, 7, .inl (fun _ => 0)))] : va_W)) H := hP
  have hD : va_D A (ws ++ ([(q60, .inr (1, [.int x, .int fr, .int to, .int (nI nP), .ref z])), (z, .inl (cI, 7, .inl (fun _ => 0)))] : va_W)) := hD
  have hq60 : (ws ++ ([(q60, .inr (1, [.int x, .int fr, .int to, .int (nI nP), .ref z])), (z, .inl (cI, 7, .inl (fun _ => 0)))] : va_W))[ws.length]? = some (q60, .inr (1, [.int x, .int fr, .int to, .int (nI nP), .ref z])) := ap_0 rfl
  have hv := va_ga (w2 := [(q60, .inr (1, [.int x, .int fr, .int to, .int (nI nP), .ref z])), (z, .inl (cI, 7, .inl (fun _ => 0)))]) hv0
  have hls2 := lsL_ga (w2 := [(q60, .inr (1, [.int x, .int fr, .int to, .int (nI nP), .ref z])), (z, .inl (cI, 7, .inl (fun _ => 0)))]) hC9
  obtain ⟨moA, aeA, hLA⟩ := lsL_cell hls2
  refine va_calli (va_runV (As := [.ref q60]) (rest := []) ⟨hx, hb, hml, hown, hts⟩ (metAdd l G tys _ htO hls2 (Nat.lt_of_lt_of_le (n8 (k := 8) k4 hn60 (by decide)) (by decide)) (ci := 1) rfl (by decide +kernel) (fun i hi => ⟨_, _, va_ga (w2 := [(q60, .inr (1, [.int x, .int fr, .int to, .int (nI nP), .ref z])), (z, .inl (cI, 7, .inl (fun _ => 0)))]) (hCl i hi)⟩) hq60 (by decide)) (cwV 1 hts gX7_claim_Jx4a65c_add_9ea2d rfl rfl rfl (by decide +kernel) ⟨Nat.le_of_ble_eq_true rfl, Nat.le_of_ble_eq_true rfl⟩) ⟨pcX_b, va_recv hK hP (ci := 0) (q0 := pC) rfl hLA, pcX_u hP hK hD hS hA hE⟩ rfl rfl hl.1 rfl (lv_room (Nat.le_of_ble_eq_true rfl)) dX7_claim_77 ⟨Nat.le_of_ble_eq_true rfl, Nat.le_of_ble_eq_true rfl⟩) hS (fun q _ h => h) (fun q h => h) (fun r77 w2 t H locs ht hvm h77 hB hsz hk1 hS => ?_)
  rw [ht] at hB
  obtain ⟨hP, hD⟩ := hB
  obtain ⟨-, hA2⟩ := h77
  have hA3 := hA2
  obtain ⟨pe2, hS2, -⟩ := hA3
  have hv := lsA_of hls2 hA2 hv (by decide)
  refine lv_pop hx hb dX7_claim_80 rfl ?_
  refine lv_aload_n hx hb dX7_claim_81 rfl (lv_at hl 0 rfl) ?_
  refine va_get (D := G) (ci := 7) (v := .ref aC) (C := RX7) (T := TX7) (N := 7) hx hb hts hiX7 hown hK hP pv hv rfl 6 (by decide) (hts (.fieldLink RX7 43 "Vortexpin" "claims" "Ljava/util/ArrayList;") (List.mem_of_getElem? (i := 2) rfl)) (fun _ h9 => h9) rfl dX7_claim_82 ?_
  obtain ⟨mosz85, aesz85, hLsz85⟩ := lsL_cell hS2
  refine vp_callSi (va_Run.run (va_runV (As := []) (rest := []) ⟨hx, hb, hml, hown, hts⟩ (metSize l G tys _ hS2) (cwV 0 hts gX7_claim_Jx4a65c_size_8abf5 rfl rfl rfl (by decide +kernel) ⟨Nat.le_of_ble_eq_true rfl, Nat.le_of_ble_eq_true rfl⟩) ⟨pcR_b, va_recv hK hP (ci := 0) (q0 := pC) rfl hLsz85, pcR_u hP hK⟩ rfl rfl hl.1 rfl (lv_room (Nat.le_of_ble_eq_true rfl)) dX7_claim_85 ⟨Nat.le_of_ble_eq_true rfl, Nat.le_of_ble_eq_true rfl⟩)) (fun r85 h85 => ?_)
  subst h85
  refine lv_iconst (v := 1) hx hb dX7_claim_88 (by decide) ?_
  refine lv_isub hx hb dX7_claim_89 ?_
  refine W.widen (k := 8) (n := 242) (Nat.le_of_ble_eq_true rfl) (Nat.le_of_ble_eq_true rfl) (vx_ret ?_)
  exact W.iret (v := (nI (nC + 1)) - (1 : Int32)) hx hb hr (fun t ht hW => ⟨⟨(nI (nC + 1)) - (1 : Int32), (q60, z, w2), rfl, ⟨by unfold cdClaim; rw [if_neg k0, if_neg k1, if_neg k2, if_neg k3, if_neg k4], ⟨nI_m1 _, hA2⟩⟩, by show va_P G vwCl _ t.heap ∧ va_D A _; rw [ht]; exact ⟨hP, hD⟩⟩, hS.F ht⟩) hS.2.2 dX7_claim_90

