theorem jm_1 {n : Nat} (h : 2 ≤ n) (hn : n < 2 ^ 31) : jmax (nI 1) (nI (n / 2)) = nI (n / 2) := by
  unfold jmax
  by_cases q : 1 < n / 2
  · rw [if_pos (nI_lt q (by omega))]
  · have e : n / 2 = 1 := by omega
    rw [e, if_neg (nI_nlt (Nat.le_refl 1) (by decide))]
theorem sh_1 {n : Nat} (hn : n < 2 ^ 31) : nI n >>> ((1 : Int32) &&& 31) = nI (n / 2) := by
  have k := pk_shrN (n := n) hn ((1 : Int32) &&& 31) 1 (by decide)
  rw [Nat.pow_one] at k
  exact k
theorem sub_1 (n : Nat) : nI (n + 1) - nI n = nI 1 := by
  have k := pk_sub (a := n + 1) (b := n) (by omega)
  rw [Nat.add_sub_cancel_left] at k
  exact k
theorem met_mono {l : Launch} {y : MethodName} {wy : List Cond} {rm : Room} {Pc Pc2 : Array Value → State → Prop} {Qc Qc2 : Array Value → State → Outcome → State → Prop} {mc ms : Nat} {free : Addr → Prop} (h : Met l y wy rm Pc Qc mc ms free) (hP : ∀ a s, Pc2 a s → Pc a s) (hQ : ∀ a s o t, Pc2 a s → Qc a s o t → Qc2 a s o t) : Met l y wy rm Pc2 Qc2 mc ms free := by
  intro p e ha hc hk s m args below hf happ hpre hK
  obtain ⟨n, o, h1, h2, h3, h4, h5⟩ := h p e ha hc hk s m args below hf happ (hP _ _ hpre) hK
  exact ⟨n, o, h1, h2, h3, hQ _ _ _ _ hpre h4, h5⟩
set_option maxHeartbeats 4000000 in
set_option maxRecDepth 100000 in
theorem metJx4a65c_grow_92f84_N (l : Launch) (G : va_G) (tys : List (ClassId × FieldType)) {A : Nat → Prop} {tE mi : Nat} (ws : va_W) {pl al pe ae n : Nat} {mo sz : Int32} {a : Nat → Option Nat} {cO : ClassId} (htO : tO tys cO) (hL : ws[pl]? = some (al, .inr (0, [.int mo, .ref ae, .int sz]))) (he : ws[pe]? = some (ae, .inl (cO, n, .inr (.inr (.inr (.inr a)))))) (h10 : 10 ≤ n) (h100 : n ≤ 100) {ci : Nat} {r : vw_C} (hc : vwCl[ci]? = some r) (hcw : Cond.castable r.1 "java/lang/Object" ∈ envW) (hel : ∀ i, i < n → ∀ y, a i = some y → ∃ (k : Nat) (vs : List Value), ws[k]? = some (y, .inr (ci, vs))) : Met l yJx4a65c_grow_92f84 wsJx4a65c_grow_92f84 ({ frames := 4, cells := 1, slots := 200, locals := 130 }) (pcX G tys ws A tE mi [.ref al, .int (nI (n + 1))]) (va_Qr (fun (_ : Unit) => True) (fun _ q t => va_P G vwCl ((ws ++ ([(q, .inl (cO, n + n / 2, .inr (.inr (.inr (.inr (va_cpy a (fun _ => none) 0 0 n))))))] : va_W)).set pl (al, .inr (0, [.int mo, .ref q, .int sz]))) t.heap ∧ va_D A ((ws ++ ([(q, .inl (cO, n + n / 2, .inr (.inr (.inr (.inr (va_cpy a (fun _ => none) 0 0 n))))))] : va_W)).set pl (al, .inr (0, [.int mo, .ref q, .int sz])))) A) 1 200 A := by
  refine ofXMF (cc := cJx4a65c_grow_92f84) (maxL := 4) (ret := some (.array (.object "java/lang/Object"))) (by decide +kernel) rfl (Nat.le_of_ble_eq_true rfl) ?_
  intro p e s m below meth c ls hx hb hr hlocks hml hown hts hin hl hP hK hD hA hS hE
  have hown : s.vm.findClass RJx4a65c = some m.cls := hown
  have hiJx4a65c : ∀ w ∈ u_ws RJx4a65c TJx4a65c 3, w ∈ wsJx4a65c_grow_92f84 := fun _ h => List.mem_cons_of_mem _ (List.mem_append_right _ h)
  have hl : lv_has ls 4 [(0, .ref al), (1, .int (nI (n + 1)))] := hl
  have hL0 := hL
  refine lv_aload_n hx hb dJx4a65c_grow_92f84_0 rfl (lv_at hl 0 rfl) ?_
  refine va_get (D := G) (ci := 0) (v := .ref ae) (C := RJx4a65c) (T := TJx4a65c) (N := 3) hx hb hts hiJx4a65c hown hK hP pl hL rfl 1 (by decide) (hts (.fieldLink RJx4a65c 9 "java/util/ArrayList" "elementData" "[Ljava/lang/Object;") (List.mem_of_getElem? (i := 1) rfl)) (fun _ h9 => h9) rfl dJx4a65c_grow_92f84_1 ?_
  refine va_alen hx hb hK hP pe 1 he htO (v := nI n) rfl dJx4a65c_grow_92f84_4 ?_
  refine lv_istore_n (lv' := [(2, .int (nI n)), (0, .ref al), (1, .int (nI (n + 1)))]) hx hb dJx4a65c_grow_92f84_5 rfl hl (by decide) rfl (fun ls hl => ?_)
  refine lv_iload_n hx hb dJx4a65c_grow_92f84_6 rfl (lv_at hl 0 rfl) ?_
  refine lv_if_gt (tgt := 20) hx hb dJx4a65c_grow_92f84_7 (by decide) (fun c7 => ?_) (fun c7 => absurd (nI_lt (a := 0) (b := n) (by omega) (by omega)) c7)
  refine lv_iload_n hx hb dJx4a65c_grow_92f84_20 rfl (lv_at hl 0 rfl) ?_
  refine lv_iload_n hx hb dJx4a65c_grow_92f84_21 rfl (lv_at hl 2 rfl) ?_
  refine lv_iload_n hx hb dJx4a65c_grow_92f84_22 rfl (lv_at hl 0 rfl) ?_
  refine lv_isub hx hb dJx4a65c_grow_92f84_23 ?_
  refine re_i (y := nI 1) (sub_1 n) ?_
  refine lv_iload_n hx hb dJx4a65c_grow_92f84_24 rfl (lv_at hl 0 rfl) ?_
  refine lv_iconst (v := 1) hx hb dJx4a65c_grow_92f84_25 (by decide) ?_
  refine lv_ishr hx hb dJx4a65c_grow_92f84_26 ?_
  refine re_i (y := nI (n / 2)) (sh_1 (by omega)) ?_
  refine vp_callSi (va_Run.run (va_runS (As := [.int (nI n), .int (nI 1), .int (nI (n / 2))]) (rest := []) ⟨hx, hb, hml, hown, hts⟩ (metJ8_newLength_cabcc l (nI n) (nI 1) (nI (n / 2)) (by rw [jm_1 (by omega) (by omega), nI_add]; exact nI_nle (by omega) (by omega)) (by rw [jm_1 (by omega) (by omega), nI_add]; exact nI_nlt (a := 2147483639) (by omega) (by decide))) (va_cwS 3 hts gJx4a65c_grow_92f84_J8_newLength_cabcc rfl rfl rfl (by decide +kernel) ⟨Nat.le_of_ble_eq_true rfl, Nat.le_of_ble_eq_true rfl⟩) ⟨pc0_b, pc0_u⟩ rfl rfl hl.1 rfl (lv_room (Nat.le_of_ble_eq_true rfl)) dJx4a65c_grow_92f84_27 ⟨Nat.le_of_ble_eq_true rfl, Nat.le_of_ble_eq_true rfl⟩)) (fun r27 h27 => ?_)
  rw [jm_1 (by omega) (by omega), nI_add] at h27
  subst h27
  refine lv_istore_n (lv' := [(3, .int (nI (n + n / 2))), (2, .int (nI n)), (0, .ref al), (1, .int (nI (n + 1)))]) hx hb dJx4a65c_grow_92f84_30 rfl hl (by decide) rfl (fun ls hl => ?_)
  refine lv_aload_n hx hb dJx4a65c_grow_92f84_31 rfl (lv_at hl 2 rfl) ?_
  refine lv_aload_n hx hb dJx4a65c_grow_92f84_32 rfl (lv_at hl 2 rfl) ?_
  refine va_get (D := G) (ci := 0) (v := .ref ae) (C := RJx4a65c) (T := TJx4a65c) (N := 3) hx hb hts hiJx4a65c hown hK hP pl hL rfl 1 (by decide) (hts (.fieldLink RJx4a65c 9 "java/util/ArrayList" "elementData" "[Ljava/lang/Object;") (List.mem_of_getElem? (i := 1) rfl)) (fun _ h9 => h9) rfl dJx4a65c_grow_92f84_33 ?_
  refine lv_iload_n hx hb dJx4a65c_grow_92f84_36 rfl (lv_at hl 0 rfl) ?_
  refine va_callr (va_runS (As := [.ref ae, .int (nI (n + n / 2))]) (rest := [.ref al]) ⟨hx, hb, hml, hown, hts⟩ (metJ7_copyOf_1904c l G tys _ htO he (n + n / 2) (by omega) (by omega) hc hcw hel) (va_cwS 2 hts gJx4a65c_grow_92f84_J7_copyOf_1904c rfl rfl rfl (by decide +kernel) ⟨Nat.le_of_ble_eq_true rfl, Nat.le_of_ble_eq_true rfl⟩) ⟨pcX_b, pcX_u hP hK hD hS hA hE⟩ rfl rfl hl.1 rfl (lv_room (Nat.le_of_ble_eq_true rfl)) dJx4a65c_grow_92f84_37 ⟨Nat.le_of_ble_eq_true rfl, Nat.le_of_ble_eq_true rfl⟩) hS (fun q _ h => h) (fun q h => h) (fun u q t H locs ht hvm hu hB hsz hk1 hS => ?_)
  rw [ht] at hB
  obtain ⟨hP, hD⟩ := hB
  have hL := va_ga (w2 := [(q, .inl (cO, n + n / 2, .inr (.inr (.inr (.inr (va_cpy a (fun _ => none) 0 0 n))))))]) hL
  refine lv_dup_x1 hx hb dJx4a65c_grow_92f84_40 rfl rfl ?_
  refine va_put (D := G) (ci := 0) (v := .ref q) (ty := .array (.object "java/lang/Object")) (C := RJx4a65c) (T := TJx4a65c) (N := 3) hx hb hts hiJx4a65c tyJx4a65c tyJx4a65c_ok nmJx4a65c hown hK hP hD hS pl hL rfl 1 (by decide) (hts (.fieldLink RJx4a65c 9 "java/util/ArrayList" "elementData" "[Ljava/lang/Object;") (List.mem_of_getElem? (i := 1) rfl)) (fun _ h9 => h9) rfl (by decide +kernel) (rfl) (rfl) (Nat.le_of_ble_eq_true rfl) dJx4a65c_grow_92f84_41 (fun H locs hP hD hS => ?_)
  have hL := va_ge (e := (al, .inr (0, [.int mo, .ref q, .int sz]))) hL
  exact W.aret (v := .ref q) (rt := .array (.object "java/lang/Object")) hx hb hr (Or.inr ⟨_, rfl⟩) (Or.inr ⟨_, rfl⟩) (fun t ht hW => ⟨⟨(), q, rfl, trivial, by show va_P G vwCl _ t.heap ∧ va_D A _; rw [ht]; exact ⟨hP, hD⟩⟩, hS.F ht⟩) hS.2.2 dJx4a65c_grow_92f84_44
set_option maxHeartbeats 4000000 in
set_option maxRecDepth 100000 in
theorem metJx4a65c_grow_92f84_0 (l : Launch) (G : va_G) (tys : List (ClassId × FieldType)) {A : Nat → Prop} {tE mi : Nat} (ws : va_W) {pl al : Nat} {mo : Int32} {cO : ClassId} (htO : tO tys cO) (hL : ws[pl]? = some (al, .inr (0, [.int mo, .ref tE, .int 0]))) : Met l yJx4a65c_grow_92f84 wsJx4a65c_grow_92f84 ({ frames := 4, cells := 1, slots := 200, locals := 130 }) (pcX G tys ws A tE mi [.ref al, .int (nI 1)]) (va_Qr (fun (_ : Unit) => True) (fun _ q t => va_P G vwCl ((ws ++ ([(q, .inl (cO, 10, .inr (.inr (.inr (.inr (fun _ => none))))))] : va_W)).set pl (al, .inr (0, [.int mo, .ref q, .int 0]))) t.heap ∧ va_D A ((ws ++ ([(q, .inl (cO, 10, .inr (.inr (.inr (.inr (fun _ => none))))))] : va_W)).set pl (al, .inr (0, [.int mo, .ref q, .int 0])))) A) 1 200 A := by
  refine ofXMF (cc := cJx4a65c_grow_92f84) (maxL := 4) (ret := some (.array (.object "java/lang/Object"))) (by decide +kernel) rfl (Nat.le_of_ble_eq_true rfl) ?_
  intro p e s m below meth c ls hx hb hr hlocks hml hown hts hin hl hP hK hD hA hS hE
  have hown : s.vm.findClass RJx4a65c = some m.cls := hown
  have hiJx4a65c : ∀ w ∈ u_ws RJx4a65c TJx4a65c 3, w ∈ wsJx4a65c_grow_92f84 := fun _ h => List.mem_cons_of_mem _ (List.mem_append_right _ h)
  have hl : lv_has ls 4 [(0, .ref al), (1, .int (nI 1))] := hl
  have hL0 := hL
  refine lv_aload_n hx hb dJx4a65c_grow_92f84_0 rfl (lv_at hl 0 rfl) ?_
  refine va_get (D := G) (ci := 0) (v := .ref tE) (C := RJx4a65c) (T := TJx4a65c) (N := 3) hx hb hts hiJx4a65c hown hK hP pl hL rfl 1 (by decide) (hts (.fieldLink RJx4a65c 9 "java/util/ArrayList" "elementData" "[Ljava/lang/Object;") (List.mem_of_getElem? (i := 1) rfl)) (fun _ h9 => h9) rfl dJx4a65c_grow_92f84_1 ?_
  refine va_tlen hx hb hE.2.2.2.2.2.2.1 hS (v := 0) rfl dJx4a65c_grow_92f84_4 ?_
  refine lv_istore_n (lv' := [(2, .int (0 : Int32)), (0, .ref al), (1, .int (nI 1))]) hx hb dJx4a65c_grow_92f84_5 rfl hl (by decide) rfl (fun ls hl => ?_)
  refine lv_iload_n hx hb dJx4a65c_grow_92f84_6 rfl (lv_at hl 0 rfl) ?_
  refine lv_if_gt (tgt := 20) hx hb dJx4a65c_grow_92f84_7 (by decide) (fun c7 => absurd c7 (by decide)) (fun c7 => ?_)
  refine lv_aload_n hx hb dJx4a65c_grow_92f84_10 rfl (lv_at hl 1 rfl) ?_
  refine va_get (D := G) (ci := 0) (v := .ref tE) (C := RJx4a65c) (T := TJx4a65c) (N := 3) hx hb hts hiJx4a65c hown hK hP pl hL rfl 1 (by decide) (hts (.fieldLink RJx4a65c 9 "java/util/ArrayList" "elementData" "[Ljava/lang/Object;") (List.mem_of_getElem? (i := 1) rfl)) (fun _ h9 => h9) rfl dJx4a65c_grow_92f84_11 ?_
  refine va_gets hx hb hE.2.2.2.2.2.1 hS hown (hts (.fieldLink RJx4a65c 39 "java/util/ArrayList" "DEFAULTCAPACITY_EMPTY_ELEMENTDATA" "[Ljava/lang/Object;") (List.mem_of_getElem? (i := 2) rfl)) (fun _ h => h) dJx4a65c_grow_92f84_14 ?_
  refine lv_acmp_eq (rx := some tE) (ry := some tE) (tgt := 45) hx hb dJx4a65c_grow_92f84_17 (by decide) (fun _ => ?_) (fun h => absurd rfl h)
  refine lv_aload_n hx hb dJx4a65c_grow_92f84_45 rfl (lv_at hl 1 rfl) ?_
  refine lv_bipush (v := 10) hx hb dJx4a65c_grow_92f84_46 (by decide) ?_
  refine lv_iload_n hx hb dJx4a65c_grow_92f84_48 rfl (lv_at hl 2 rfl) ?_
  refine va_mmax hx hb (hml.trans hl.1.symm) hown (hts (.methodLink RJx4a65c 79 Lib.Math.max.name) (List.mem_of_getElem? (i := 3) rfl)) (hts (.static Lib.Math.max.name) (List.mem_of_getElem? (i := 4) rfl)) (hts (.initialized "java/lang/Math") (List.mem_of_getElem? (i := 5) rfl)) (hts (.code Lib.Math.max.name Lib.Math.max.code 2 (some .int)) (List.mem_of_getElem? (i := 6) rfl)) (Nat.le_of_ble_eq_true rfl) (Nat.le_of_ble_eq_true rfl) (Nat.le_of_ble_eq_true rfl) (Nat.le_of_ble_eq_true rfl) dJx4a65c_grow_92f84_49 ?_
  refine fold_max ?_
  refine re_i (y := 10) (by decide) ?_
  refine va_newq hx hb hown (hts (.classLink RJx4a65c 7 "java/lang/Object") (List.mem_of_getElem? (i := 7) rfl)) hE.2.2.2.2.2.2.2.1 hK (N' := 10) hP hD hS hA (by decide) (by decide) (hbytes := by omega) (Nat.le_of_ble_eq_true rfl) (by show 0 + 10 ≤ 200; omega) dJx4a65c_grow_92f84_52 (fun q cA H hK2 hP hD hS => ?_)
  have hz2 : (tys ++ [(cA, FieldType.object "java/lang/Object")])[tys.length]? = some (cA, .object "java/lang/Object") := by simp
  have hcA : cA = cO := Option.some.inj ((va_nmO (nm := "[Ljava/lang/Object;") (hK2.2 tys.length _ hz2).2 rfl).symm.trans (va_nmO (nm := "[Ljava/lang/Object;") (hK.2 1 _ htO).2 rfl))
  subst hcA
  refine W.widen (k := 1) (n := 200) (by omega) (by omega) ?_
  have hL := va_ga (w2 := [(q, .inl (cA, 10, .inr (.inr (.inr (.inr (fun _ => none))))))]) hL
  have hN : (ws ++ ([(q, .inl (cA, 10, .inr (.inr (.inr (.inr (fun _ => none))))))] : va_W))[ws.length]? = some (q, .inl (cA, 10, .inr (.inr (.inr (.inr (fun _ => none)))))) := va_gn
  have hP : va_P G vwCl (ws ++ ([(q, .inl (cA, 10, .inr (.inr (.inr (.inr (fun _ => none))))))] : va_W)) H := hP
  have hD : va_D A (ws ++ ([(q, .inl (cA, 10, .inr (.inr (.inr (.inr (fun _ => none))))))] : va_W)) := hD
  refine lv_dup_x1 hx hb dJx4a65c_grow_92f84_55 rfl rfl ?_
  refine va_put (D := G) (ci := 0) (v := .ref q) (ty := .array (.object "java/lang/Object")) (C := RJx4a65c) (T := TJx4a65c) (N := 3) hx hb hts hiJx4a65c tyJx4a65c tyJx4a65c_ok nmJx4a65c hown hK hP hD hS pl hL rfl 1 (by decide) (hts (.fieldLink RJx4a65c 9 "java/util/ArrayList" "elementData" "[Ljava/lang/Object;") (List.mem_of_getElem? (i := 1) rfl)) (fun _ h9 => h9) rfl (by decide +kernel) (rfl) (rfl) (Nat.le_of_ble_eq_true rfl) dJx4a65c_grow_92f84_56 (fun H locs hP hD hS => ?_)
  have hN := va_gs (k := pl) (e := (al, .inr (0, [.int mo, .ref q, .int (0 : Int32)]))) (Nat.ne_of_gt (List.getElem?_eq_some_iff.mp hL0).1) hN
  have hL := va_ge (e := (al, .inr (0, [.int mo, .ref q, .int (0 : Int32)]))) hL
  exact W.aret (v := .ref q) (rt := .array (.object "java/lang/Object")) hx hb hr (Or.inr ⟨_, rfl⟩) (Or.inr ⟨_, rfl⟩) (fun t ht hW => ⟨⟨(), q, rfl, trivial, by show va_P G vwCl _ t.heap ∧ va_D A _; rw [ht]; exact ⟨hP, hD⟩⟩, hS.F ht⟩) hS.2.2 dJx4a65c_grow_92f84_59
set_option maxHeartbeats 4000000 in
set_option maxRecDepth 100000 in
theorem metJx4a65c_grow_d5877_N (l : Launch) (G : va_G) (tys : List (ClassId × FieldType)) {A : Nat → Prop} {tE mi : Nat} (ws : va_W) {pl al pe ae n : Nat} {mo : Int32} {a : Nat → Option Nat} {cO : ClassId} (htO : tO tys cO) (hL : ws[pl]? = some (al, .inr (0, [.int mo, .ref ae, .int (nI n)]))) (he : ws[pe]? = some (ae, .inl (cO, n, .inr (.inr (.inr (.inr a)))))) (h10 : 10 ≤ n) (h100 : n ≤ 100) {ci : Nat} {r : vw_C} (hc : vwCl[ci]? = some r) (hcw : Cond.castable r.1 "java/lang/Object" ∈ envW) (hel : ∀ i, i < n → ∀ y, a i = some y → ∃ (k : Nat) (vs : List Value), ws[k]? = some (y, .inr (ci, vs))) : Met l yJx4a65c_grow_d5877 wsJx4a65c_grow_d5877 ({ frames := 5, cells := 1, slots := 200, locals := 154 }) (pcX G tys ws A tE mi [.ref al]) (va_Qr (fun (_ : Unit) => True) (fun _ q t => va_P G vwCl ((ws ++ ([(q, .inl (cO, n + n / 2, .inr (.inr (.inr (.inr (va_cpy a (fun _ => none) 0 0 n))))))] : va_W)).set pl (al, .inr (0, [.int mo, .ref q, .int (nI n)]))) t.heap ∧ va_D A ((ws ++ ([(q, .inl (cO, n + n / 2, .inr (.inr (.inr (.inr (va_cpy a (fun _ => none) 0 0 n))))))] : va_W)).set pl (al, .inr (0, [.int mo, .ref q, .int (nI n)])))) A) 1 200 A := by
  refine ofXMF (cc := cJx4a65c_grow_d5877) (maxL := 1) (ret := some (.array (.object "java/lang/Object"))) (by decide +kernel) rfl (Nat.le_of_ble_eq_true rfl) ?_
  intro p e s m below meth c ls hx hb hr hlocks hml hown hts hin hl hP hK hD hA hS hE
  have hown : s.vm.findClass RJx4a65c = some m.cls := hown
  have hiJx4a65c : ∀ w ∈ u_ws RJx4a65c TJx4a65c 3, w ∈ wsJx4a65c_grow_d5877 := fun _ h => List.mem_cons_of_mem _ (List.mem_append_right _ h)
  have hl : lv_has ls 1 [(0, .ref al)] := hl
  refine lv_aload_n hx hb dJx4a65c_grow_d5877_0 rfl (lv_at hl 0 rfl) ?_
  refine lv_aload_n hx hb dJx4a65c_grow_d5877_1 rfl (lv_at hl 0 rfl) ?_
  refine va_get (D := G) (ci := 0) (v := .int (nI n)) (C := RJx4a65c) (T := TJx4a65c) (N := 3) hx hb hts hiJx4a65c hown hK hP pl hL rfl 2 (by decide) (hts (.fieldLink RJx4a65c 48 "java/util/ArrayList" "size" "I") (List.mem_of_getElem? (i := 1) rfl)) (fun _ h9 => h9) rfl dJx4a65c_grow_d5877_2 ?_
  refine lv_iconst (v := 1) hx hb dJx4a65c_grow_d5877_5 (by decide) ?_
  refine lv_iadd hx hb dJx4a65c_grow_d5877_6 ?_
  refine re_i (y := nI (n + 1)) (nI_1 n) ?_
  refine va_callr (va_runV (As := [.int (nI (n + 1))]) (rest := []) ⟨hx, hb, hml, hown, hts⟩ (metJx4a65c_grow_92f84_N l G tys _ htO hL he h10 h100 hc hcw hel) (cwV 1 hts gJx4a65c_grow_d5877_Jx4a65c_grow_92f84 rfl rfl rfl (by decide +kernel) ⟨Nat.le_of_ble_eq_true rfl, Nat.le_of_ble_eq_true rfl⟩) ⟨pcX_b, va_recv hK hP (ci := 0) (q0 := pl) rfl hL, pcX_u hP hK hD hS hA hE⟩ rfl rfl hl.1 rfl (lv_room (Nat.le_of_ble_eq_true rfl)) dJx4a65c_grow_d5877_7 ⟨Nat.le_of_ble_eq_true rfl, Nat.le_of_ble_eq_true rfl⟩) hS (fun q _ h => h) (fun q h => h) (fun u q t H locs ht hvm hu hB hsz hk1 hS => ?_)
  rw [ht] at hB
  obtain ⟨hP, hD⟩ := hB
  have hne : (ws).length ≠ pl := Nat.ne_of_gt (List.getElem?_eq_some_iff.mp hL).1
  have hN : (((ws) ++ ([(q, .inl (cO, n + n / 2, .inr (.inr (.inr (.inr (va_cpy a (fun _ => none) 0 0 n))))))] : va_W)).set pl (al, .inr (0, [.int mo, .ref q, .int (nI n)])))[(ws).length]? = some (q, .inl (cO, n + n / 2, .inr (.inr (.inr (.inr (va_cpy a (fun _ => none) 0 0 n)))))) := va_gs hne va_gn
  have hL := va_ge (e := (al, .inr (0, [.int mo, .ref q, .int (nI n)]))) (va_ga (w2 := [(q, .inl (cO, n + n / 2, .inr (.inr (.inr (.inr (va_cpy a (fun _ => none) 0 0 n))))))]) hL)
  have hP : va_P G vwCl (((ws) ++ ([(q, .inl (cO, n + n / 2, .inr (.inr (.inr (.inr (va_cpy a (fun _ => none) 0 0 n))))))] : va_W)).set pl (al, .inr (0, [.int mo, .ref q, .int (nI n)]))) H := hP
  have hD : va_D A (((ws) ++ ([(q, .inl (cO, n + n / 2, .inr (.inr (.inr (.inr (va_cpy a (fun _ => none) 0 0 n))))))] : va_W)).set pl (al, .inr (0, [.int mo, .ref q, .int (nI n)]))) := hD
  exact W.aret (v := .ref q) (rt := .array (.object "java/lang/Object")) hx hb hr (Or.inr ⟨_, rfl⟩) (Or.inr ⟨_, rfl⟩) (fun t ht hW => ⟨⟨(), q, rfl, trivial, by show va_P G vwCl _ t.heap ∧ va_D A _; rw [ht]; exact ⟨hP, hD⟩⟩, hS.F ht⟩) hS.2.2 dJx4a65c_grow_d5877_10
set_option maxHeartbeats 4000000 in
set_option maxRecDepth 100000 in
theorem metJx4a65c_grow_d5877_0 (l : Launch) (G : va_G) (tys : List (ClassId × FieldType)) {A : Nat → Prop} {tE mi : Nat} (ws : va_W) {pl al : Nat} {mo : Int32} {cO : ClassId} (htO : tO tys cO) (hL : ws[pl]? = some (al, .inr (0, [.int mo, .ref tE, .int 0]))) : Met l yJx4a65c_grow_d5877 wsJx4a65c_grow_d5877 ({ frames := 5, cells := 1, slots := 200, locals := 154 }) (pcX G tys ws A tE mi [.ref al]) (va_Qr (fun (_ : Unit) => True) (fun _ q t => va_P G vwCl ((ws ++ ([(q, .inl (cO, 10, .inr (.inr (.inr (.inr (fun _ => none))))))] : va_W)).set pl (al, .inr (0, [.int mo, .ref q, .int 0]))) t.heap ∧ va_D A ((ws ++ ([(q, .inl (cO, 10, .inr (.inr (.inr (.inr (fun _ => none))))))] : va_W)).set pl (al, .inr (0, [.int mo, .ref q, .int 0])))) A) 1 200 A := by
  refine ofXMF (cc := cJx4a65c_grow_d5877) (maxL := 1) (ret := some (.array (.object "java/lang/Object"))) (by decide +kernel) rfl (Nat.le_of_ble_eq_true rfl) ?_
  intro p e s m below meth c ls hx hb hr hlocks hml hown hts hin hl hP hK hD hA hS hE
  have hown : s.vm.findClass RJx4a65c = some m.cls := hown
  have hiJx4a65c : ∀ w ∈ u_ws RJx4a65c TJx4a65c 3, w ∈ wsJx4a65c_grow_d5877 := fun _ h => List.mem_cons_of_mem _ (List.mem_append_right _ h)
  have hl : lv_has ls 1 [(0, .ref al)] := hl
  refine lv_aload_n hx hb dJx4a65c_grow_d5877_0 rfl (lv_at hl 0 rfl) ?_
  refine lv_aload_n hx hb dJx4a65c_grow_d5877_1 rfl (lv_at hl 0 rfl) ?_
  refine va_get (D := G) (ci := 0) (v := .int (0 : Int32)) (C := RJx4a65c) (T := TJx4a65c) (N := 3) hx hb hts hiJx4a65c hown hK hP pl hL rfl 2 (by decide) (hts (.fieldLink RJx4a65c 48 "java/util/ArrayList" "size" "I") (List.mem_of_getElem? (i := 1) rfl)) (fun _ h9 => h9) rfl dJx4a65c_grow_d5877_2 ?_
  refine lv_iconst (v := 1) hx hb dJx4a65c_grow_d5877_5 (by decide) ?_
  refine lv_iadd hx hb dJx4a65c_grow_d5877_6 ?_
  refine re_i (y := nI 1) (by decide) ?_
  refine va_callr (va_runV (As := [.int (nI 1)]) (rest := []) ⟨hx, hb, hml, hown, hts⟩ (metJx4a65c_grow_92f84_0 l G tys _ htO hL) (cwV 1 hts gJx4a65c_grow_d5877_Jx4a65c_grow_92f84 rfl rfl rfl (by decide +kernel) ⟨Nat.le_of_ble_eq_true rfl, Nat.le_of_ble_eq_true rfl⟩) ⟨pcX_b, va_recv hK hP (ci := 0) (q0 := pl) rfl hL, pcX_u hP hK hD hS hA hE⟩ rfl rfl hl.1 rfl (lv_room (Nat.le_of_ble_eq_true rfl)) dJx4a65c_grow_d5877_7 ⟨Nat.le_of_ble_eq_true rfl, Nat.le_of_ble_eq_true rfl⟩) hS (fun q _ h => h) (fun q h => h) (fun u q t H locs ht hvm hu hB hsz hk1 hS => ?_)
  rw [ht] at hB
  obtain ⟨hP, hD⟩ := hB
  have hne : (ws).length ≠ pl := Nat.ne_of_gt (List.getElem?_eq_some_iff.mp hL).1
  have hN : (((ws) ++ ([(q, .inl (cO, 10, .inr (.inr (.inr (.inr (fun _ => none))))))] : va_W)).set pl (al, .inr (0, [.int mo, .ref q, .int (0 : Int32)])))[(ws).length]? = some (q, .inl (cO, 10, .inr (.inr (.inr (.inr (fun _ => none)))))) := va_gs hne va_gn
  have hL := va_ge (e := (al, .inr (0, [.int mo, .ref q, .int (0 : Int32)]))) (va_ga (w2 := [(q, .inl (cO, 10, .inr (.inr (.inr (.inr (fun _ => none))))))]) hL)
  have hP : va_P G vwCl (((ws) ++ ([(q, .inl (cO, 10, .inr (.inr (.inr (.inr (fun _ => none))))))] : va_W)).set pl (al, .inr (0, [.int mo, .ref q, .int (0 : Int32)]))) H := hP
  have hD : va_D A (((ws) ++ ([(q, .inl (cO, 10, .inr (.inr (.inr (.inr (fun _ => none))))))] : va_W)).set pl (al, .inr (0, [.int mo, .ref q, .int (0 : Int32)]))) := hD
  exact W.aret (v := .ref q) (rt := .array (.object "java/lang/Object")) hx hb hr (Or.inr ⟨_, rfl⟩) (Or.inr ⟨_, rfl⟩) (fun t ht hW => ⟨⟨(), q, rfl, trivial, by show va_P G vwCl _ t.heap ∧ va_D A _; rw [ht]; exact ⟨hP, hD⟩⟩, hS.F ht⟩) hS.2.2 dJx4a65c_grow_d5877_10

