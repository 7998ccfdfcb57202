set_option maxHeartbeats 4000000 in
set_option maxRecDepth 100000 in
/-- YOUR PART: from the entry, for every script of at most 260 ints, the law comes to its end with true -/
theorem whole_start {p : Program} {e : Env} {s : State} {m : MethodId} {below : List Frame} {meth : Method} {c : Code} (l : Launch) (hflags : l.flags = flags0) {b L : Nat} {xs : Nat → Int32} (hL : L ≤ 260) (C0 : lw_At p s m meth c b L xs) : W p l e room_1 s m #[Value.ref b] below meth c s.heap [] 0 0 (lw_Z below #[Value.ref b] s) (entryFrame m ([Value.ref b] : List Value).toArray 26) := by
  have hnt : l.stackTraces = false := by unfold Launch.stackTraces; rw [hflags]; decide +kernel
  have C1 := C0
  obtain ⟨hx, hb, hr, hml, hown, hts0, hX, hbl, hlocks, hgv⟩ := C1
  have hts : ∀ w ∈ wsL_law, w.before #[Value.ref b] s = true := fun w h => hts0 w (wsL_law_in w h)
  have hown : s.vm.findClass RL = some m.cls := hown
  have hA : ∀ q : Nat, s.heap.size ≤ q → (fun q : Nat => s.heap.size ≤ q) q := fun _ h => h
  have hbA : ¬ (fun q : Nat => s.heap.size ≤ q) b := Nat.not_le.mpr hbl
  obtain ⟨tE, mi, hE⟩ := env_start C0
  obtain ⟨G, cI, cO, hK⟩ := K_start hts0
  obtain ⟨tys, htys⟩ : ∃ t : List (ClassId × FieldType), t = [(cI, .int), (cO, .object "java/lang/Object")] := ⟨_, rfl⟩
  rw [← htys] at hK
  have htI : tI tys cI := by rw [htys]; rfl
  have htO : tO tys cO := by rw [htys]; rfl
  have hS : va_S (fun q : Nat => s.heap.size ≤ q) s.heap s.heap [] := va_S.rf
  have hP : va_P G vwCl [] s.heap := fun k q h => by simp at h
  have hD : va_D (fun q : Nat => s.heap.size ≤ q) [] := ⟨fun i j p q h => by simp at h, fun k q h => by simp at h⟩
  have hl := lv_entry ([.ref b]) (n := 26) (Nat.le_of_ble_eq_true rfl)
  rw [lg_entry_eq]
  generalize (lg_sl ([.ref b]) ++ List.replicate (26 - (lg_sl ([.ref b])).length) Slot.unset).toArray = ls at hl ⊢
  have hl : lv_has ls 26 [(0, .ref b)] := hl
  refine va_new (D := G) (ci := 7) (fs := [.null, .null, .null, .null, .null, .null, .null]) (C := RX7) (T := TX7) (N := 7) hx hb hts inlX7 tyX7 tyX7_ok hown (hts0 (.classLink RL 8 RX7) (by decide +kernel)) (hts0 (.instantiable RX7 7) (by decide +kernel)) (hts0 (.initialized RX7) (by decide +kernel)) hK hP hD hS hA rfl (fun j hj => by rcases (show j = 0 ∨ j = 1 ∨ j = 2 ∨ j = 3 ∨ j = 4 ∨ j = 5 ∨ j = 6 by omega) with rfl | rfl | rfl | rfl | rfl | rfl | rfl <;> rfl) (Nat.le_of_ble_eq_true rfl) (Nat.le_of_ble_eq_true rfl) dL_law_0 (fun v H hP hD hS => ?_)
  have hP : va_P G vwCl [(v, .inr (7, [.null, .null, .null, .null, .null, .null, .null]))] H := hP
  have hD : va_D (fun q : Nat => s.heap.size ≤ q) [(v, .inr (7, [.null, .null, .null, .null, .null, .null, .null]))] := hD
  refine lv_dup hx hb dL_law_3 rfl ?_
  refine va_callv (va_runI (As := []) (rest := [.ref v]) ⟨hx, hb, hml, hown, hts⟩ (metX7_init l G tys (mi := mi) htI) (cwI 0 hts gL_law_X7_init rfl rfl rfl (hts0 (.initialized RX7) (by decide +kernel)) (hts0 (.methodLink RL 10 yX7_init) (by decide +kernel)) (hts0 (.instanceMethod yX7_init) (by decide +kernel)) rfl (by decide +kernel) ⟨Nat.le_of_ble_eq_true rfl, Nat.le_of_ble_eq_true rfl⟩) ⟨pcX_b, pcX_u hP hK hD hS hA hE⟩ rfl rfl hl.1 rfl (lv_room (Nat.le_of_ble_eq_true rfl)) dL_law_4 ⟨Nat.le_of_ble_eq_true rfl, Nat.le_of_ble_eq_true rfl⟩) hS (fun q _ h => h) (fun q h => h) (fun ai t H locs ht hvm hu hB hsz hk1 hS => ?_)
  rw [ht] at hB
  obtain ⟨hP, hD⟩ := hB
  refine lv_astore_n (lv' := [(1, .ref v), (0, .ref b)]) hx hb dL_law_7 rfl hl (by decide) rfl (fun ls hl => ?_)
  refine lv_bipush (v := 60) hx hb dL_law_8 (by decide) ?_
  refine va_newa (atype := .int) (n := 60) (N' := 60) (a0 := (60, .inl (fun _ => 0))) hx hb (hts0 (.arrayClass .int) (by decide +kernel)) rfl hK hP hD hS hA (fun _ => rfl) (by decide) (by decide) (by decide) (Nat.le_of_ble_eq_true rfl) (Nat.le_of_ble_eq_true rfl) dL_law_10 (fun q12 cA H hK2 hP hD hS => ?_)
  have hz2 : (tys ++ [(cA, FieldType.int)])[tys.length]? = some (cA, .int) := by simp
  have hcA : cA = cI := Option.some.inj ((va_nm_int (hK2.2 tys.length _ hz2).2).symm.trans (va_nm_int (hK.2 0 _ htI).2))
  rw [hcA] at hP hD
  refine lv_astore_n (lv' := [(2, .ref q12), (1, .ref v), (0, .ref b)]) hx hb dL_law_12 rfl hl (by decide) rfl (fun ls hl => ?_)
  refine lv_bipush (v := 60) hx hb dL_law_13 (by decide) ?_
  refine va_newa (atype := .int) (n := 60) (N' := 60) (a0 := (60, .inl (fun _ => 0))) hx hb (hts0 (.arrayClass .int) (by decide +kernel)) rfl hK hP hD hS hA (fun _ => rfl) (by decide) (by decide) (by decide) (Nat.le_of_ble_eq_true rfl) (Nat.le_of_ble_eq_true rfl) dL_law_15 (fun q13 cA H hK2 hP hD hS => ?_)
  have hz2 : (tys ++ [(cA, FieldType.int)])[tys.length]? = some (cA, .int) := by simp
  have hcA : cA = cI := Option.some.inj ((va_nm_int (hK2.2 tys.length _ hz2).2).symm.trans (va_nm_int (hK.2 0 _ htI).2))
  rw [hcA] at hP hD
  refine lv_astore_n (lv' := [(3, .ref q13), (2, .ref q12), (1, .ref v), (0, .ref b)]) hx hb dL_law_17 rfl hl (by decide) rfl (fun ls hl => ?_)
  refine lv_bipush (v := 60) hx hb dL_law_18 (by decide) ?_
  refine va_newa (atype := .int) (n := 60) (N' := 60) (a0 := (60, .inl (fun _ => 0))) hx hb (hts0 (.arrayClass .int) (by decide +kernel)) rfl hK hP hD hS hA (fun _ => rfl) (by decide) (by decide) (by decide) (Nat.le_of_ble_eq_true rfl) (Nat.le_of_ble_eq_true rfl) dL_law_20 (fun q14 cA H hK2 hP hD hS => ?_)
  have hz2 : (tys ++ [(cA, FieldType.int)])[tys.length]? = some (cA, .int) := by simp
  have hcA : cA = cI := Option.some.inj ((va_nm_int (hK2.2 tys.length _ hz2).2).symm.trans (va_nm_int (hK.2 0 _ htI).2))
  rw [hcA] at hP hD
  refine lv_astore (lv' := [(4, .ref q14), (3, .ref q13), (2, .ref q12), (1, .ref v), (0, .ref b)]) hx hb dL_law_22 hl (by decide) rfl (fun ls hl => ?_)
  refine lv_bipush (v := 48) hx hb dL_law_24 (by decide) ?_
  refine va_newa (atype := .int) (n := 48) (N' := 48) (a0 := (48, .inl (fun _ => 0))) hx hb (hts0 (.arrayClass .int) (by decide +kernel)) rfl hK hP hD hS hA (fun _ => rfl) (by decide) (by decide) (by decide) (Nat.le_of_ble_eq_true rfl) (Nat.le_of_ble_eq_true rfl) dL_law_26 (fun q15 cA H hK2 hP hD hS => ?_)
  have hz2 : (tys ++ [(cA, FieldType.int)])[tys.length]? = some (cA, .int) := by simp
  have hcA : cA = cI := Option.some.inj ((va_nm_int (hK2.2 tys.length _ hz2).2).symm.trans (va_nm_int (hK.2 0 _ htI).2))
  rw [hcA] at hP hD
  refine lv_astore (lv' := [(5, .ref q15), (4, .ref q14), (3, .ref q13), (2, .ref q12), (1, .ref v), (0, .ref b)]) hx hb dL_law_28 hl (by decide) rfl (fun ls hl => ?_)
  refine lv_bipush (v := 20) hx hb dL_law_30 (by decide) ?_
  refine va_newa (atype := .int) (n := 20) (N' := 20) (a0 := (20, .inl (fun _ => 0))) hx hb (hts0 (.arrayClass .int) (by decide +kernel)) rfl hK hP hD hS hA (fun _ => rfl) (by decide) (by decide) (by decide) (Nat.le_of_ble_eq_true rfl) (Nat.le_of_ble_eq_true rfl) dL_law_32 (fun q16 cA H hK2 hP hD hS => ?_)
  have hz2 : (tys ++ [(cA, FieldType.int)])[tys.length]? = some (cA, .int) := by simp
  have hcA : cA = cI := Option.some.inj ((va_nm_int (hK2.2 tys.length _ hz2).2).symm.trans (va_nm_int (hK.2 0 _ htI).2))
  rw [hcA] at hP hD
  refine lv_astore (lv' := [(6, .ref q16), (5, .ref q15), (4, .ref q14), (3, .ref q13), (2, .ref q12), (1, .ref v), (0, .ref b)]) hx hb dL_law_34 hl (by decide) rfl (fun ls hl => ?_)
  refine lv_iconst (v := 0) hx hb dL_law_36 (by decide) ?_
  refine lv_istore (lv' := [(7, .int (0 : Int32)), (6, .ref q16), (5, .ref q15), (4, .ref q14), (3, .ref q13), (2, .ref q12), (1, .ref v), (0, .ref b)]) hx hb dL_law_37 hl (by decide) rfl (fun ls hl => ?_)
  refine lv_iconst (v := 0) hx hb dL_law_39 (by decide) ?_
  refine lv_istore (lv' := [(8, .int (0 : Int32)), (7, .int (0 : Int32)), (6, .ref q16), (5, .ref q15), (4, .ref q14), (3, .ref q13), (2, .ref q12), (1, .ref v), (0, .ref b)]) hx hb dL_law_40 hl (by decide) rfl (fun ls hl => ?_)
  refine lv_lconst (v := 0) hx hb dL_law_42 (by decide) ?_
  refine lv_lstore (lv' := [(9, .long 0), (8, .int (0 : Int32)), (7, .int (0 : Int32)), (6, .ref q16), (5, .ref q15), (4, .ref q14), (3, .ref q13), (2, .ref q12), (1, .ref v), (0, .ref b)]) hx hb dL_law_43 hl (by decide) rfl (fun ls hl => ?_)
  obtain ⟨ad, z0, z1, z2, z3, z4, z5, z6, z7, z8, z9, z10, z11, z12, z13, z14, z15, z16⟩ : ∃ ad : Nat → Nat, ad 0 = v ∧ ad 1 = ai 1 ∧ ad 2 = ai 2 ∧ ad 3 = ai 3 ∧ ad 4 = ai 4 ∧ ad 5 = ai 5 ∧ ad 6 = ai 6 ∧ ad 7 = ai 7 ∧ ad 8 = ai 8 ∧ ad 9 = ai 9 ∧ ad 10 = ai 10 ∧ ad 11 = ai 11 ∧ ad 12 = q12 ∧ ad 13 = q13 ∧ ad 14 = q14 ∧ ad 15 = q15 ∧ ad 16 = q16 := ⟨fun z => if z = 0 then v else if z = 12 then q12 else if z = 13 then q13 else if z = 14 then q14 else if z = 15 then q15 else if z = 16 then q16 else ai z, rfl, rfl, rfl, rfl, rfl, rfl, rfl, rfl, rfl, rfl, rfl, rfl, rfl, rfl, rfl, rfl, rfl⟩
  have hP : va_P G vwCl (w17 cI tE ad) H := by simp only [w17, z0, z1, z2, z3, z4, z5, z6, z7, z8, z9, z10, z11, z12, z13, z14, z15, z16]; exact hP
  have hD : va_D (fun q : Nat => s.heap.size ≤ q) (w17 cI tE ad) := by simp only [w17, z0, z1, z2, z3, z4, z5, z6, z7, z8, z9, z10, z11, z12, z13, z14, z15, z16]; exact hD
  have hl : lv_has ls 26 [(9, .long 0), (8, .int (0 : Int32)), (7, .int (0 : Int32)), (6, .ref (ad 16)), (5, .ref (ad 15)), (4, .ref (ad 14)), (3, .ref (ad 13)), (2, .ref (ad 12)), (1, .ref (ad 0)), (0, .ref b)] := by simp only [z0, z12, z13, z14, z15, z16]; exact hl
  refine W.widen (k := 100) (n := 2000) (Nat.le_of_ble_eq_true rfl) (Nat.le_of_ble_eq_true rfl) ?_
  refine lv_aload_n hx hb dL_law_45 rfl (lv_at hl 9 rfl) ?_
  refine lv_iconst (v := 0) hx hb dL_law_46 (by decide) ?_
  refine re_i (y := nI 0) (show (0 : Int32) = nI 0 from rfl) ?_
  refine vp_callSi (va_Run.run (va_runS (As := [.ref b, .int (nI 0)]) (rest := []) ⟨hx, hb, hml, hown, hts⟩ (metL_cell l hL 0 (by decide)) (va_cwS 2 hts gL_law_L_cell rfl rfl rfl (by decide +kernel) ⟨Nat.le_of_ble_eq_true rfl, Nat.le_of_ble_eq_true rfl⟩) ⟨pcS_b, pcS_u hX hbl hbA hS⟩ rfl rfl hl.1 rfl (lv_room (Nat.le_of_ble_eq_true rfl)) dL_law_47 ⟨by show 100 + 0 ≤ 600130; omega, by show 2000 + 0 ≤ 7301080; omega⟩)) (fun r h => ?_)
  refine lv_ldc (v := 2147483647) hx hb hown (hts0 _ cw_17) dL_law_50 ?_
  refine lv_iand hx hb dL_law_52 ?_
  obtain ⟨X, hX31, eX⟩ := pk_andE r (m := 2147483647) 31 (by decide +kernel)
  refine re_i (y := nI X) (eX) ?_
  refine lv_istore (lv' := [(11, .int (nI X)), (9, .long 0), (8, .int (0 : Int32)), (7, .int (0 : Int32)), (6, .ref (ad 16)), (5, .ref (ad 15)), (4, .ref (ad 14)), (3, .ref (ad 13)), (2, .ref (ad 12)), (1, .ref (ad 0)), (0, .ref b)]) hx hb dL_law_53 hl (by decide) rfl (fun ls hl => ?_)
  refine lv_iconst (v := 1) hx hb dL_law_55 (by decide) ?_
  refine lv_iload hx hb dL_law_56 (lv_at hl 0 rfl) ?_
  refine lv_bipush (v := 100) hx hb dL_law_58 (by decide) ?_
  refine re_i (y := nI 100) (show (100 : Int32) = nI 100 from rfl) ?_
  refine vp_callSi (va_Run.run (va_runS (As := [.int (nI X), .int (nI 100)]) (rest := [.int (1 : Int32)]) ⟨hx, hb, hml, hown, hts⟩ (metL_at l X 100 (by omega) (by decide) (by decide)) (va_cwS 2 hts gL_law_L_at rfl rfl rfl (by decide +kernel) ⟨Nat.le_of_ble_eq_true rfl, Nat.le_of_ble_eq_true rfl⟩) ⟨pc0_b, pc0_u⟩ rfl rfl hl.1 rfl (lv_room (Nat.le_of_ble_eq_true rfl)) dL_law_60 ⟨by show 100 + 0 ≤ 600130; omega, by show 2000 + 0 ≤ 7301080; omega⟩)) (fun r h => ?_)
  obtain ⟨k60, hk60, rfl⟩ := h
  refine lv_iadd hx hb dL_law_63 ?_
  refine re_i (y := nI (1 + k60)) (nI_add 1 k60) ?_
  refine lv_istore (lv' := [(12, .int (nI (1 + k60))), (11, .int (nI X)), (9, .long 0), (8, .int (0 : Int32)), (7, .int (0 : Int32)), (6, .ref (ad 16)), (5, .ref (ad 15)), (4, .ref (ad 14)), (3, .ref (ad 13)), (2, .ref (ad 12)), (1, .ref (ad 0)), (0, .ref b)]) hx hb dL_law_64 hl (by decide) rfl (fun ls hl => ?_)
  refine lv_bipush (v := 50) hx hb dL_law_66 (by decide) ?_
  refine lv_iload hx hb dL_law_68 (lv_at hl 1 rfl) ?_
  refine lv_bipush (v := 8) hx hb dL_law_70 (by decide) ?_
  refine lv_ishr hx hb dL_law_72 ?_
  refine re_i (y := nI (X / 2 ^ 8)) (pk_shrN hX31 _ 8 (by decide +kernel)) ?_
  refine lv_sipush (v := 500) hx hb dL_law_73 (by decide) ?_
  refine re_i (y := nI 500) (show (500 : Int32) = nI 500 from rfl) ?_
  refine vp_callSi (va_Run.run (va_runS (As := [.int (nI (X / 2 ^ 8)), .int (nI 500)]) (rest := [.int (50 : Int32)]) ⟨hx, hb, hml, hown, hts⟩ (metL_at l (X / 2 ^ 8) 500 (by omega) (by decide) (by decide)) (va_cwS 2 hts gL_law_L_at rfl rfl rfl (by decide +kernel) ⟨Nat.le_of_ble_eq_true rfl, Nat.le_of_ble_eq_true rfl⟩) ⟨pc0_b, pc0_u⟩ rfl rfl hl.1 rfl (lv_room (Nat.le_of_ble_eq_true rfl)) dL_law_76 ⟨by show 100 + 0 ≤ 600130; omega, by show 2000 + 0 ≤ 7301080; omega⟩)) (fun r h => ?_)
  obtain ⟨k76, hk76, rfl⟩ := h
  refine lv_iadd hx hb dL_law_79 ?_
  refine re_i (y := nI (50 + k76)) (nI_add 50 k76) ?_
  refine lv_istore (lv' := [(13, .int (nI (50 + k76))), (12, .int (nI (1 + k60))), (11, .int (nI X)), (9, .long 0), (8, .int (0 : Int32)), (7, .int (0 : Int32)), (6, .ref (ad 16)), (5, .ref (ad 15)), (4, .ref (ad 14)), (3, .ref (ad 13)), (2, .ref (ad 12)), (1, .ref (ad 0)), (0, .ref b)]) hx hb dL_law_80 hl (by decide) rfl (fun ls hl => ?_)
  refine lv_aload_n hx hb dL_law_82 rfl (lv_at hl 11 rfl) ?_
  refine lv_iload hx hb dL_law_83 (lv_at hl 1 rfl) ?_
  refine lv_iload hx hb dL_law_85 (lv_at hl 0 rfl) ?_
  have hv0 : (w17 cI tE ad)[0]? = some (ad 0, .inr (7, [.ref (ad 1), .ref (ad 2), .ref (ad 5), .ref (ad 6), .ref (ad 9), .ref (ad 10), .ref (ad 11)])) := rfl
  have hx1 : (nI (1 + k60)).toInt = 1 + (k60 : Int) := by rw [nI_toInt (by omega)]; omega
  have hy1 : (nI (50 + k76)).toInt = 50 + (k76 : Int) := by rw [nI_toInt (by omega)]; omega
  refine va_calli (va_runV (As := [.int (nI (1 + k60)), .int (nI (50 + k76))]) (rest := []) ⟨hx, hb, hml, hown, hts⟩ (op_ring0 hnt G tys htO ad (nI (1 + k60)) (nI (50 + k76)) (by omega) (by omega) (by omega) (by omega)) (cwV 2 hts gL_law_X7_ring rfl rfl rfl (by decide +kernel) ⟨Nat.le_of_ble_eq_true rfl, Nat.le_of_ble_eq_true rfl⟩) ⟨pcX_b, va_recv hK hP (ci := 7) (q0 := 0) rfl hv0, pcX_u hP hK hD hS hA hE⟩ rfl rfl hl.1 rfl (lv_room (Nat.le_of_ble_eq_true rfl)) dL_law_87 ⟨by show 100 + 5 ≤ 600130; omega, by show 2000 + 223 ≤ 7301080; omega⟩) hS (fun q _ h => h) (fun q h => h) (fun r w t H locs ht hvm hq hB hsz hk1 hS => ?_)
  rw [ht] at hB
  obtain ⟨hP, hD⟩ := hB
  obtain ⟨er, own, cel, hI⟩ := hq
  refine re_i (y := 0) (er) ?_
  refine lv_if_eq (tgt := 95) hx hb dL_law_90 (by decide) (fun c90 => ?_) (fun c90 => absurd (rfl) c90)
  refine lv_iconst (v := 0) hx hb dL_law_95 (by decide) ?_
  refine lv_istore (lv' := [(14, .int (0 : Int32)), (13, .int (nI (50 + k76))), (12, .int (nI (1 + k60))), (11, .int (nI X)), (9, .long 0), (8, .int (0 : Int32)), (7, .int (0 : Int32)), (6, .ref (ad 16)), (5, .ref (ad 15)), (4, .ref (ad 14)), (3, .ref (ad 13)), (2, .ref (ad 12)), (1, .ref (ad 0)), (0, .ref b)]) hx hb dL_law_96 hl (by decide) rfl (fun ls hl => ?_)
  have hti : ti cI cO tE ad (nI (1 + k60)) (nI (50 + k76)) 0 0 0 w := ⟨_, _, _, _, _, _, _, _, _, _, _, _, _, _, _, _, _, hI, by decide +kernel, fun k _ h9 => absurd h9 (show ¬ (0 : Int32) = 1 by decide), by decide, fun i hi => absurd hi (Nat.not_lt_zero i)⟩
  refine turns hnt htI htO hL C0 hK hE (C9 := 7000) (S9 := 200000) (by omega) (by omega) (fun n np al ws H locs ls hti hP hD hS hl => ?_) 60 0 _ _ (by omega) (by show 100 + 5 + 100 * 60 ≤ 7000; omega) (by show 2000 + 223 + 2000 * 60 ≤ 200000; omega) 0 0 0 w _ _ ls hti hP hD hS (lv_sub hl [13, 12, 11, 10, 9, 8, 7, 6, 5, 4, 2, 1, 0] rfl)
  refine lv_iconst (v := 0) hx hb dL_law_778 (by decide) ?_
  refine lv_istore (lv' := [(14, .int (0 : Int32)), (0, .ref b), (1, .ref (ad 0)), (2, .ref (ad 12)), (3, .ref (ad 13)), (4, .ref (ad 14)), (5, .ref (ad 15)), (6, .ref (ad 16)), (7, .int (nI np)), (8, .int (nI n)), (9, .long al), (12, .int (nI (1 + k60))), (13, .int (nI (50 + k76)))]) hx hb dL_law_779 hl (by decide) rfl (fun ls hl => ?_)
  obtain ⟨own, P, M, V, S, T, cel, ct, cf, co, ca, wd, num, cur, du, wi, dm, hI, hal, hT, hnp, hV⟩ := hti
  exact claims30 hnt htI htO hL C0 hK hE hnp 8 0 _ _ (by omega) (by omega) (by omega) ws H _ ls ⟨_, _, _, _, _, _, _, _, _, _, _, _, _, _, _, _, _, _, _, _, hI, hnp, hV⟩ hP hD hS (lv_sub hl [1, 2, 3, 4, 5, 8, 0] rfl)
