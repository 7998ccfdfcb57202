set_option maxHeartbeats 4000000 in
set_option maxRecDepth 100000 in
theorem case_pulse {p : Program} {l : Launch} {e : Env} {s : State} {m : MethodId} {below : List Frame} {meth : Method} {c : Code} (hnt : l.stackTraces = false) {G : va_G} {tys : List (ClassId × FieldType)} {tE mi : Nat} {cI cO cJ cB : ClassId} (htI : tI tys cI) (htO : tO tys cO) (htJ : tys[2]? = some (cJ, .long)) (htB : tys[3]? = some (cB, .double)) {b L : Nat} {xs : Nat → Int32} (hL : L ≤ 2048) (C0 : lw_At p s m meth c b L xs) {v am oj od : Nat} (hK : va_K G vwCl tys s) (hE : env (fun q : Nat => s.heap.size ≤ q) tE mi s s.heap) {ws : va_W} {H : Heap} {locs : List Loc} {i : Nat} {x5 : Int32} {cells slots : Nat} {Q : State → Prop} {ls : Array Slot} (hi : i + 3 < L) (e5 : x5 = nI i) (hI : INV cI cO cJ cB tE v am oj od ws) (hP : va_P G vwCl ws H) (hD : va_D (fun q : Nat => s.heap.size ≤ q) ws) (hS : va_S (fun q : Nat => s.heap.size ≤ q) s.heap H locs) (hl : lv_has ls 10 [(0, .ref b), (1, .ref v), (2, .ref am), (3, .ref oj), (4, .ref od), (5, .int x5)]) (hc : cells + 8 ≤ 601024) (hs : slots + 242 ≤ 7293034) (kk : ∀ (w : va_W) (H1 : Heap) (locs1 : List Loc) (ls1 : Array Slot), INV cI cO cJ cB tE v am oj od w → va_P G vwCl w H1 → va_D (fun q : Nat => s.heap.size ≤ q) w → va_S (fun q : Nat => s.heap.size ≤ q) s.heap H1 locs1 → lv_has ls1 10 [(0, .ref b), (1, .ref v), (2, .ref am), (3, .ref oj), (4, .ref od), (5, .int x5)] → W p l e room_1 s m #[Value.ref b] below meth c H1 locs1 (cells + 8) (slots + 242) Q (F0 m 1803 ls1 [])) : W p l e room_1 s m #[Value.ref b] below meth c H locs (cells) (slots) Q (F0 m 1355 ls []) := by
  obtain ⟨hx, hb, hr, hml, hown, hts0, hX, hbl, hlocks, hgv⟩ := C0
  have hts : ∀ w ∈ wsL_law, w.before #[Value.ref b] s = true := fun w h => hts0 w (wsL_law_in w h)
  have hown : s.vm.findClass RL = some m.cls := hown
  have hA : ∀ q : Nat, s.heap.size ≤ q → (fun q : Nat => s.heap.size ≤ q) q := fun _ h => h
  have hbA : ¬ (fun q : Nat => s.heap.size ≤ q) b := Nat.not_le.mpr hbl
  have g1 : vp_in (x5 + 1) L := by rw [e5, show nI i + 1 = nI (i + 1) from nI_add i 1]; exact vp_in_nI (by omega) (by omega)
  obtain ⟨a1, ea1⟩ : ∃ y, y = xs (x5 + 1).toNatClampNeg := ⟨_, rfl⟩
  have g2 : vp_in (x5 + 2) L := by rw [e5, show nI i + 2 = nI (i + 2) from nI_add i 2]; exact vp_in_nI (by omega) (by omega)
  obtain ⟨a2, ea2⟩ : ∃ y, y = xs (x5 + 2).toNatClampNeg := ⟨_, rfl⟩
  obtain ⟨Mid, hH, hM⟩ := sem_pulse (A := (fun q : Nat => s.heap.size ≤ q)) (mi := mi) l hnt G tys htI htO htJ htB hI a1 a2
  refine lv_aload_n hx hb dL_law_1355 rfl (lv_at hl 1 rfl) ?_
  refine lv_aload_n hx hb dL_law_1356 rfl (lv_at hl 0 rfl) ?_
  refine lv_iload hx hb dL_law_1357 (lv_at hl 5 rfl) ?_
  refine lv_iconst (v := 1) hx hb dL_law_1359 (by decide) ?_
  refine lv_iadd hx hb dL_law_1360 ?_
  refine va_sld hx hb hX hbl hbA hS g1 dL_law_1361 ?_
  refine re_i ea1.symm ?_
  refine lv_aload_n hx hb dL_law_1362 rfl (lv_at hl 0 rfl) ?_
  refine lv_iload hx hb dL_law_1363 (lv_at hl 5 rfl) ?_
  refine lv_iconst (v := 2) hx hb dL_law_1365 (by decide) ?_
  refine lv_iadd hx hb dL_law_1366 ?_
  refine va_sld hx hb hX hbl hbA hS g2 dL_law_1367 ?_
  refine re_i ea2.symm ?_
  refine lv_aload_n hx hb dL_law_1368 rfl (lv_at hl 3 rfl) ?_
  refine va_calli (vx_runSW (As := [.ref v, .int a1, .int a2, .ref oj]) (rest := []) ⟨hx, hb, hml, hown, hts⟩ hH (vx_cwSW 4 hts gL_law_L_pulse rfl rfl rfl (by decide +kernel) ⟨Nat.le_of_ble_eq_true rfl, Nat.le_of_ble_eq_true rfl⟩) ⟨pcX_b, pcX_u hP hK hD hS hA hE⟩ rfl rfl hl.1 rfl (lv_room (Nat.le_of_ble_eq_true rfl)) dL_law_1369 ⟨by show cells + 2 ≤ 601024; omega, by show slots + 12 ≤ 7293034; omega⟩) hS (fun q _ h => h) (fun q h => h) (fun k1 w t H locs ht hvm hMk hB hsz hk1 hS => ?_)
  rw [ht] at hB
  obtain ⟨hP, hD⟩ := hB
  obtain ⟨⟨vs12, h12⟩, hR⟩ := hM k1 w hMk
  refine lv_istore (lv' := [(6, .int k1), (0, .ref b), (1, .ref v), (2, .ref am), (3, .ref oj), (4, .ref od), (5, .int x5)]) hx hb dL_law_1372 hl (by decide) rfl (fun ls hl => ?_)
  refine lv_aload_n hx hb dL_law_1374 rfl (lv_at hl 3 rfl) ?_
  refine lv_aload_n hx hb dL_law_1375 rfl (lv_at hl 1 rfl) ?_
  refine lv_iload hx hb dL_law_1376 (lv_at hl 6 rfl) ?_
  refine lv_iconst (v := 1) hx hb dL_law_1378 (by decide) ?_
  refine lv_iadd hx hb dL_law_1379 ?_
  refine va_sld hx hb hX hbl hbA hS g1 dL_law_1380 ?_
  refine re_i ea1.symm ?_
  refine lv_aload_n hx hb dL_law_1381 rfl (lv_at hl 1 rfl) ?_
  refine lv_iload hx hb dL_law_1382 (lv_at hl 6 rfl) ?_
  refine lv_iconst (v := 2) hx hb dL_law_1384 (by decide) ?_
  refine lv_iadd hx hb dL_law_1385 ?_
  refine va_sld hx hb hX hbl hbA hS g2 dL_law_1386 ?_
  refine re_i ea2.symm ?_
  refine va_calli (va_runV (As := [.int a1, .int a2]) (rest := []) ⟨hx, hb, hml, hown, hts⟩ hR (cwV 2 hts gL_law_X8_pulse rfl rfl rfl (by decide +kernel) ⟨Nat.le_of_ble_eq_true rfl, Nat.le_of_ble_eq_true rfl⟩) ⟨pcM_b, va_recv hK hP (ci := 9) (q0 := 12) rfl h12, pcM_u hP hK hD hS hA⟩ rfl rfl hl.1 rfl (lv_room (Nat.le_of_ble_eq_true rfl)) dL_law_1387 ⟨by show cells + 2 + 0 ≤ 601024; omega, by show slots + 12 + 0 ≤ 7293034; omega⟩) hS (fun q _ h => h) (fun q h => h) (fun r2 w2 t H locs ht hvm hE2 hB hsz hk1 hS => ?_)
  rw [ht] at hB
  obtain ⟨hP, hD⟩ := hB
  obtain ⟨⟨ad, z, wi, dm, hm, hz⟩, hou, hI2⟩ := hE2
  refine lv_istore (lv' := [(7, .int r2), (6, .int k1), (0, .ref b), (1, .ref v), (2, .ref am), (3, .ref oj), (4, .ref od), (5, .int x5)]) hx hb dL_law_1390 hl (by decide) rfl (fun ls hl => ?_)
  refine lv_aload_n hx hb dL_law_1392 rfl (lv_at hl 4 rfl) ?_
  refine vp_callSi (va_Run.run (va_runV (As := []) (rest := []) ⟨hx, hb, hml, hown, hts⟩ (metX8_thrown l G tys w2 (F := fun _ _ => 0) hm) (cwV 0 hts gL_law_X8_thrown rfl rfl rfl (by decide +kernel) ⟨Nat.le_of_ble_eq_true rfl, Nat.le_of_ble_eq_true rfl⟩) ⟨pcR_b, va_recv hK hP (ci := 9) (q0 := 12) rfl hm, pcR_u hP hK⟩ rfl rfl hl.1 rfl (lv_room (Nat.le_of_ble_eq_true rfl)) dL_law_1393 ⟨by show cells + 2 + 0 ≤ 601024; omega, by show slots + 12 + 0 ≤ 7293034; omega⟩)) (fun r3 h3 => ?_)
  refine lv_iload hx hb dL_law_1396 (lv_at hl 1 rfl) ?_
  refine lv_icmp_eq (tgt := 1403) hx hb dL_law_1398 (by decide) (fun c1 => ?_) (fun c1 => absurd (h3.trans hz) c1)
  refine lv_iload hx hb dL_law_1403 (lv_at hl 1 rfl) ?_
  refine lv_if_ne (tgt := 1420) hx hb dL_law_1405 (by decide) (fun c2 => ?_) (fun c2 => ?_)
  · refine lv_goto (tgt := 1803) hx hb dL_law_1420 (by decide) ?_
    refine W.widen (k := cells + 8) (n := slots + 242) (by omega) (by omega) ?_
    exact kk _ _ _ _ hI2 hP hD hS (lv_sub hl [2, 3, 4, 5, 6, 7] rfl)
  · obtain ⟨f, hf, hf0⟩ := hou c2
    refine lv_aload_n hx hb dL_law_1408 rfl (lv_at hl 5 rfl) ?_
    refine lv_iconst (v := 0) hx hb dL_law_1409 (by decide) ?_
    refine va_lald hx hb hK hP 36 2 hf htJ in01 dL_law_1410 ?_
    refine re_l (show f (0 : Int32).toNatClampNeg = r2.toInt64 from hf0) ?_
    refine lv_iload hx hb dL_law_1411 (lv_at hl 0 rfl) ?_
    refine lv_i2l hx hb dL_law_1413 rfl ?_
    refine W.lcmp hx hb dL_law_1414 ?_
    refine re_i (lg_cmp_self _) ?_
    refine lv_if_eq (tgt := 1420) hx hb dL_law_1415 (by decide) (fun _ => ?_) (fun c3 => absurd rfl c3)
    refine lv_goto (tgt := 1803) hx hb dL_law_1420 (by decide) ?_
    refine W.widen (k := cells + 8) (n := slots + 242) (by omega) (by omega) ?_
    exact kk _ _ _ _ hI2 hP hD hS (lv_sub hl [2, 3, 4, 5, 6, 7] rfl)
set_option maxHeartbeats 4000000 in
set_option maxRecDepth 100000 in
theorem case_bit {p : Program} {l : Launch} {e : Env} {s : State} {m : MethodId} {below : List Frame} {meth : Method} {c : Code} (hnt : l.stackTraces = false) {G : va_G} {tys : List (ClassId × FieldType)} {tE mi : Nat} {cI cO cJ cB : ClassId} (htI : tI tys cI) (htO : tO tys cO) (htJ : tys[2]? = some (cJ, .long)) (htB : tys[3]? = some (cB, .double)) {b L : Nat} {xs : Nat → Int32} (hL : L ≤ 2048) (C0 : lw_At p s m meth c b L xs) {v am oj od : Nat} (hK : va_K G vwCl tys s) (hE : env (fun q : Nat => s.heap.size ≤ q) tE mi s s.heap) {ws : va_W} {H : Heap} {locs : List Loc} {i : Nat} {x5 : Int32} {cells slots : Nat} {Q : State → Prop} {ls : Array Slot} (hi : i + 3 < L) (e5 : x5 = nI i) (hI : INV cI cO cJ cB tE v am oj od ws) (hP : va_P G vwCl ws H) (hD : va_D (fun q : Nat => s.heap.size ≤ q) ws) (hS : va_S (fun q : Nat => s.heap.size ≤ q) s.heap H locs) (hl : lv_has ls 10 [(0, .ref b), (1, .ref v), (2, .ref am), (3, .ref oj), (4, .ref od), (5, .int x5)]) (hc : cells + 8 ≤ 601024) (hs : slots + 242 ≤ 7293034) (kk : ∀ (w : va_W) (H1 : Heap) (locs1 : List Loc) (ls1 : Array Slot), INV cI cO cJ cB tE v am oj od w → va_P G vwCl w H1 → va_D (fun q : Nat => s.heap.size ≤ q) w → va_S (fun q : Nat => s.heap.size ≤ q) s.heap H1 locs1 → lv_has ls1 10 [(0, .ref b), (1, .ref v), (2, .ref am), (3, .ref oj), (4, .ref od), (5, .int x5)] → W p l e room_1 s m #[Value.ref b] below meth c H1 locs1 (cells + 8) (slots + 242) Q (F0 m 1803 ls1 [])) : W p l e room_1 s m #[Value.ref b] below meth c H locs (cells) (slots) Q (F0 m 1423 ls []) := by
  obtain ⟨hx, hb, hr, hml, hown, hts0, hX, hbl, hlocks, hgv⟩ := C0
  have hts : ∀ w ∈ wsL_law, w.before #[Value.ref b] s = true := fun w h => hts0 w (wsL_law_in w h)
  have hown : s.vm.findClass RL = some m.cls := hown
  have hA : ∀ q : Nat, s.heap.size ≤ q → (fun q : Nat => s.heap.size ≤ q) q := fun _ h => h
  have hbA : ¬ (fun q : Nat => s.heap.size ≤ q) b := Nat.not_le.mpr hbl
  have g1 : vp_in (x5 + 1) L := by rw [e5, show nI i + 1 = nI (i + 1) from nI_add i 1]; exact vp_in_nI (by omega) (by omega)
  obtain ⟨a1, ea1⟩ : ∃ y, y = xs (x5 + 1).toNatClampNeg := ⟨_, rfl⟩
  obtain ⟨Mid, hH, hM⟩ := sem_bit (A := (fun q : Nat => s.heap.size ≤ q)) (mi := mi) l hnt G tys htI htO htJ htB hI a1
  refine lv_aload_n hx hb dL_law_1423 rfl (lv_at hl 1 rfl) ?_
  refine lv_aload_n hx hb dL_law_1424 rfl (lv_at hl 0 rfl) ?_
  refine lv_iload hx hb dL_law_1425 (lv_at hl 5 rfl) ?_
  refine lv_iconst (v := 1) hx hb dL_law_1427 (by decide) ?_
  refine lv_iadd hx hb dL_law_1428 ?_
  refine va_sld hx hb hX hbl hbA hS g1 dL_law_1429 ?_
  refine re_i ea1.symm ?_
  refine lv_aload_n hx hb dL_law_1430 rfl (lv_at hl 3 rfl) ?_
  refine va_calli (vx_runSW (As := [.ref v, .int a1, .ref oj]) (rest := []) ⟨hx, hb, hml, hown, hts⟩ hH (vx_cwSW 3 hts gL_law_L_bit rfl rfl rfl (by decide +kernel) ⟨Nat.le_of_ble_eq_true rfl, Nat.le_of_ble_eq_true rfl⟩) ⟨pcX_b, pcX_u hP hK hD hS hA hE⟩ rfl rfl hl.1 rfl (lv_room (Nat.le_of_ble_eq_true rfl)) dL_law_1431 ⟨by show cells + 1 ≤ 601024; omega, by show slots + 6 ≤ 7293034; omega⟩) hS (fun q _ h => h) (fun q h => h) (fun k1 w t H locs ht hvm hMk hB hsz hk1 hS => ?_)
  rw [ht] at hB
  obtain ⟨hP, hD⟩ := hB
  obtain ⟨⟨vs12, h12⟩, hR⟩ := hM k1 w hMk
  refine lv_istore (lv' := [(6, .int k1), (0, .ref b), (1, .ref v), (2, .ref am), (3, .ref oj), (4, .ref od), (5, .int x5)]) hx hb dL_law_1434 hl (by decide) rfl (fun ls hl => ?_)
  refine lv_aload_n hx hb dL_law_1436 rfl (lv_at hl 3 rfl) ?_
  refine lv_aload_n hx hb dL_law_1437 rfl (lv_at hl 1 rfl) ?_
  refine lv_iload hx hb dL_law_1438 (lv_at hl 6 rfl) ?_
  refine lv_iconst (v := 1) hx hb dL_law_1440 (by decide) ?_
  refine lv_iadd hx hb dL_law_1441 ?_
  refine va_sld hx hb hX hbl hbA hS g1 dL_law_1442 ?_
  refine re_i ea1.symm ?_
  refine va_calli (va_runV (As := [.int a1]) (rest := []) ⟨hx, hb, hml, hown, hts⟩ hR (cwV 1 hts gL_law_X8_bit rfl rfl rfl (by decide +kernel) ⟨Nat.le_of_ble_eq_true rfl, Nat.le_of_ble_eq_true rfl⟩) ⟨pcM_b, va_recv hK hP (ci := 9) (q0 := 12) rfl h12, pcM_u hP hK hD hS hA⟩ rfl rfl hl.1 rfl (lv_room (Nat.le_of_ble_eq_true rfl)) dL_law_1443 ⟨by show cells + 1 + 0 ≤ 601024; omega, by show slots + 6 + 0 ≤ 7293034; omega⟩) hS (fun q _ h => h) (fun q h => h) (fun r2 w2 t H locs ht hvm hE2 hB hsz hk1 hS => ?_)
  rw [ht] at hB
  obtain ⟨hP, hD⟩ := hB
  obtain ⟨⟨ad, z, wi, dm, hm, hz⟩, hou, hI2⟩ := hE2
  refine lv_istore (lv' := [(7, .int r2), (6, .int k1), (0, .ref b), (1, .ref v), (2, .ref am), (3, .ref oj), (4, .ref od), (5, .int x5)]) hx hb dL_law_1446 hl (by decide) rfl (fun ls hl => ?_)
  refine lv_aload_n hx hb dL_law_1448 rfl (lv_at hl 4 rfl) ?_
  refine vp_callSi (va_Run.run (va_runV (As := []) (rest := []) ⟨hx, hb, hml, hown, hts⟩ (metX8_thrown l G tys w2 (F := fun _ _ => 0) hm) (cwV 0 hts gL_law_X8_thrown rfl rfl rfl (by decide +kernel) ⟨Nat.le_of_ble_eq_true rfl, Nat.le_of_ble_eq_true rfl⟩) ⟨pcR_b, va_recv hK hP (ci := 9) (q0 := 12) rfl hm, pcR_u hP hK⟩ rfl rfl hl.1 rfl (lv_room (Nat.le_of_ble_eq_true rfl)) dL_law_1449 ⟨by show cells + 1 + 0 ≤ 601024; omega, by show slots + 6 + 0 ≤ 7293034; omega⟩)) (fun r3 h3 => ?_)
  refine lv_iload hx hb dL_law_1452 (lv_at hl 1 rfl) ?_
  refine lv_icmp_eq (tgt := 1459) hx hb dL_law_1454 (by decide) (fun c1 => ?_) (fun c1 => absurd (h3.trans hz) c1)
  refine lv_iload hx hb dL_law_1459 (lv_at hl 1 rfl) ?_
  refine lv_if_ne (tgt := 1476) hx hb dL_law_1461 (by decide) (fun c2 => ?_) (fun c2 => ?_)
  · refine lv_goto (tgt := 1803) hx hb dL_law_1476 (by decide) ?_
    refine W.widen (k := cells + 8) (n := slots + 242) (by omega) (by omega) ?_
    exact kk _ _ _ _ hI2 hP hD hS (lv_sub hl [2, 3, 4, 5, 6, 7] rfl)
  · obtain ⟨f, hf, hf0⟩ := hou c2
    refine lv_aload_n hx hb dL_law_1464 rfl (lv_at hl 5 rfl) ?_
    refine lv_iconst (v := 0) hx hb dL_law_1465 (by decide) ?_
    refine va_lald hx hb hK hP 36 2 hf htJ in01 dL_law_1466 ?_
    refine re_l (show f (0 : Int32).toNatClampNeg = r2.toInt64 from hf0) ?_
    refine lv_iload hx hb dL_law_1467 (lv_at hl 0 rfl) ?_
    refine lv_i2l hx hb dL_law_1469 rfl ?_
    refine W.lcmp hx hb dL_law_1470 ?_
    refine re_i (lg_cmp_self _) ?_
    refine lv_if_eq (tgt := 1476) hx hb dL_law_1471 (by decide) (fun _ => ?_) (fun c3 => absurd rfl c3)
    refine lv_goto (tgt := 1803) hx hb dL_law_1476 (by decide) ?_
    refine W.widen (k := cells + 8) (n := slots + 242) (by omega) (by omega) ?_
    exact kk _ _ _ _ hI2 hP hD hS (lv_sub hl [2, 3, 4, 5, 6, 7] rfl)
set_option maxHeartbeats 4000000 in
set_option maxRecDepth 100000 in
theorem case_point {p : Program} {l : Launch} {e : Env} {s : State} {m : MethodId} {below : List Frame} {meth : Method} {c : Code} (hnt : l.stackTraces = false) {G : va_G} {tys : List (ClassId × FieldType)} {tE mi : Nat} {cI cO cJ cB : ClassId} (htI : tI tys cI) (htO : tO tys cO) (htJ : tys[2]? = some (cJ, .long)) (htB : tys[3]? = some (cB, .double)) {b L : Nat} {xs : Nat → Int32} (hL : L ≤ 2048) (C0 : lw_At p s m meth c b L xs) {v am oj od : Nat} (hK : va_K G vwCl tys s) (hE : env (fun q : Nat => s.heap.size ≤ q) tE mi s s.heap) {ws : va_W} {H : Heap} {locs : List Loc} {i : Nat} {x5 : Int32} {cells slots : Nat} {Q : State → Prop} {ls : Array Slot} (hi : i + 3 < L) (e5 : x5 = nI i) (hI : INV cI cO cJ cB tE v am oj od ws) (hP : va_P G vwCl ws H) (hD : va_D (fun q : Nat => s.heap.size ≤ q) ws) (hS : va_S (fun q : Nat => s.heap.size ≤ q) s.heap H locs) (hl : lv_has ls 10 [(0, .ref b), (1, .ref v), (2, .ref am), (3, .ref oj), (4, .ref od), (5, .int x5)]) (hc : cells + 8 ≤ 601024) (hs : slots + 242 ≤ 7293034) (kk : ∀ (w : va_W) (H1 : Heap) (locs1 : List Loc) (ls1 : Array Slot), INV cI cO cJ cB tE v am oj od w → va_P G vwCl w H1 → va_D (fun q : Nat => s.heap.size ≤ q) w → va_S (fun q : Nat => s.heap.size ≤ q) s.heap H1 locs1 → lv_has ls1 10 [(0, .ref b), (1, .ref v), (2, .ref am), (3, .ref oj), (4, .ref od), (5, .int x5)] → W p l e room_1 s m #[Value.ref b] below meth c H1 locs1 (cells + 8) (slots + 242) Q (F0 m 1803 ls1 [])) : W p l e room_1 s m #[Value.ref b] below meth c H locs (cells) (slots) Q (F0 m 1479 ls []) := by
  obtain ⟨hx, hb, hr, hml, hown, hts0, hX, hbl, hlocks, hgv⟩ := C0
  have hts : ∀ w ∈ wsL_law, w.before #[Value.ref b] s = true := fun w h => hts0 w (wsL_law_in w h)
  have hown : s.vm.findClass RL = some m.cls := hown
  have hA : ∀ q : Nat, s.heap.size ≤ q → (fun q : Nat => s.heap.size ≤ q) q := fun _ h => h
  have hbA : ¬ (fun q : Nat => s.heap.size ≤ q) b := Nat.not_le.mpr hbl
  have g1 : vp_in (x5 + 1) L := by rw [e5, show nI i + 1 = nI (i + 1) from nI_add i 1]; exact vp_in_nI (by omega) (by omega)
  obtain ⟨a1, ea1⟩ : ∃ y, y = xs (x5 + 1).toNatClampNeg := ⟨_, rfl⟩
  have g2 : vp_in (x5 + 2) L := by rw [e5, show nI i + 2 = nI (i + 2) from nI_add i 2]; exact vp_in_nI (by omega) (by omega)
  obtain ⟨a2, ea2⟩ : ∃ y, y = xs (x5 + 2).toNatClampNeg := ⟨_, rfl⟩
  have g3 : vp_in (x5 + 3) L := by rw [e5, show nI i + 3 = nI (i + 3) from nI_add i 3]; exact vp_in_nI (by omega) (by omega)
  obtain ⟨a3, ea3⟩ : ∃ y, y = xs (x5 + 3).toNatClampNeg := ⟨_, rfl⟩
  obtain ⟨Mid, hH, hM⟩ := sem_point (A := (fun q : Nat => s.heap.size ≤ q)) (mi := mi) l hnt G tys htI htO htJ htB hI a1 a2 a3
  refine lv_aload_n hx hb dL_law_1479 rfl (lv_at hl 1 rfl) ?_
  refine lv_aload_n hx hb dL_law_1480 rfl (lv_at hl 0 rfl) ?_
  refine lv_iload hx hb dL_law_1481 (lv_at hl 5 rfl) ?_
  refine lv_iconst (v := 1) hx hb dL_law_1483 (by decide) ?_
  refine lv_iadd hx hb dL_law_1484 ?_
  refine va_sld hx hb hX hbl hbA hS g1 dL_law_1485 ?_
  refine re_i ea1.symm ?_
  refine lv_aload_n hx hb dL_law_1486 rfl (lv_at hl 0 rfl) ?_
  refine lv_iload hx hb dL_law_1487 (lv_at hl 5 rfl) ?_
  refine lv_iconst (v := 2) hx hb dL_law_1489 (by decide) ?_
  refine lv_iadd hx hb dL_law_1490 ?_
  refine va_sld hx hb hX hbl hbA hS g2 dL_law_1491 ?_
  refine re_i ea2.symm ?_
  refine lv_aload_n hx hb dL_law_1492 rfl (lv_at hl 0 rfl) ?_
  refine lv_iload hx hb dL_law_1493 (lv_at hl 5 rfl) ?_
  refine lv_iconst (v := 3) hx hb dL_law_1495 (by decide) ?_
  refine lv_iadd hx hb dL_law_1496 ?_
  refine va_sld hx hb hX hbl hbA hS g3 dL_law_1497 ?_
  refine re_i ea3.symm ?_
  refine lv_aload_n hx hb dL_law_1498 rfl (lv_at hl 3 rfl) ?_
  refine va_calli (vx_runSW (As := [.ref v, .int a1, .int a2, .int a3, .ref oj]) (rest := []) ⟨hx, hb, hml, hown, hts⟩ hH (vx_cwSW 5 hts gL_law_L_point rfl rfl rfl (by decide +kernel) ⟨Nat.le_of_ble_eq_true rfl, Nat.le_of_ble_eq_true rfl⟩) ⟨pcX_b, pcX_u hP hK hD hS hA hE⟩ rfl rfl hl.1 rfl (lv_room (Nat.le_of_ble_eq_true rfl)) dL_law_1499 ⟨by show cells + 6 ≤ 601024; omega, by show slots + 227 ≤ 7293034; omega⟩) hS (fun q _ h => h) (fun q h => h) (fun k1 w t H locs ht hvm hMk hB hsz hk1 hS => ?_)
  rw [ht] at hB
  obtain ⟨hP, hD⟩ := hB
  obtain ⟨⟨vs12, h12⟩, hR⟩ := hM k1 w hMk
  refine lv_istore (lv' := [(6, .int k1), (0, .ref b), (1, .ref v), (2, .ref am), (3, .ref oj), (4, .ref od), (5, .int x5)]) hx hb dL_law_1502 hl (by decide) rfl (fun ls hl => ?_)
  refine lv_aload_n hx hb dL_law_1504 rfl (lv_at hl 3 rfl) ?_
  refine lv_aload_n hx hb dL_law_1505 rfl (lv_at hl 1 rfl) ?_
  refine lv_iload hx hb dL_law_1506 (lv_at hl 6 rfl) ?_
  refine lv_iconst (v := 1) hx hb dL_law_1508 (by decide) ?_
  refine lv_iadd hx hb dL_law_1509 ?_
  refine va_sld hx hb hX hbl hbA hS g1 dL_law_1510 ?_
  refine re_i ea1.symm ?_
  refine lv_aload_n hx hb dL_law_1511 rfl (lv_at hl 1 rfl) ?_
  refine lv_iload hx hb dL_law_1512 (lv_at hl 6 rfl) ?_
  refine lv_iconst (v := 2) hx hb dL_law_1514 (by decide) ?_
  refine lv_iadd hx hb dL_law_1515 ?_
  refine va_sld hx hb hX hbl hbA hS g2 dL_law_1516 ?_
  refine re_i ea2.symm ?_
  refine lv_aload_n hx hb dL_law_1517 rfl (lv_at hl 1 rfl) ?_
  refine lv_iload hx hb dL_law_1518 (lv_at hl 6 rfl) ?_
  refine lv_iconst (v := 3) hx hb dL_law_1520 (by decide) ?_
  refine lv_iadd hx hb dL_law_1521 ?_
  refine va_sld hx hb hX hbl hbA hS g3 dL_law_1522 ?_
  refine re_i ea3.symm ?_
  refine va_calli (va_runV (As := [.int a1, .int a2, .int a3]) (rest := []) ⟨hx, hb, hml, hown, hts⟩ hR (cwV 3 hts gL_law_X8_point rfl rfl rfl (by decide +kernel) ⟨Nat.le_of_ble_eq_true rfl, Nat.le_of_ble_eq_true rfl⟩) ⟨pcM_b, va_recv hK hP (ci := 9) (q0 := 12) rfl h12, pcM_u hP hK hD hS hA⟩ rfl rfl hl.1 rfl (lv_room (Nat.le_of_ble_eq_true rfl)) dL_law_1523 ⟨by show cells + 6 + 0 ≤ 601024; omega, by show slots + 227 + 0 ≤ 7293034; omega⟩) hS (fun q _ h => h) (fun q h => h) (fun r2 w2 t H locs ht hvm hE2 hB hsz hk1 hS => ?_)
  rw [ht] at hB
  obtain ⟨hP, hD⟩ := hB
  obtain ⟨⟨ad, z, wi, dm, hm, hz⟩, hou, hI2⟩ := hE2
  refine lv_istore (lv' := [(7, .int r2), (6, .int k1), (0, .ref b), (1, .ref v), (2, .ref am), (3, .ref oj), (4, .ref od), (5, .int x5)]) hx hb dL_law_1526 hl (by decide) rfl (fun ls hl => ?_)
  refine lv_aload_n hx hb dL_law_1528 rfl (lv_at hl 4 rfl) ?_
  refine vp_callSi (va_Run.run (va_runV (As := []) (rest := []) ⟨hx, hb, hml, hown, hts⟩ (metX8_thrown l G tys w2 (F := fun _ _ => 0) hm) (cwV 0 hts gL_law_X8_thrown rfl rfl rfl (by decide +kernel) ⟨Nat.le_of_ble_eq_true rfl, Nat.le_of_ble_eq_true rfl⟩) ⟨pcR_b, va_recv hK hP (ci := 9) (q0 := 12) rfl hm, pcR_u hP hK⟩ rfl rfl hl.1 rfl (lv_room (Nat.le_of_ble_eq_true rfl)) dL_law_1529 ⟨by show cells + 6 + 0 ≤ 601024; omega, by show slots + 227 + 0 ≤ 7293034; omega⟩)) (fun r3 h3 => ?_)
  refine lv_iload hx hb dL_law_1532 (lv_at hl 1 rfl) ?_
  refine lv_icmp_eq (tgt := 1539) hx hb dL_law_1534 (by decide) (fun c1 => ?_) (fun c1 => absurd (h3.trans hz) c1)
  refine lv_iload hx hb dL_law_1539 (lv_at hl 1 rfl) ?_
  refine lv_if_ne (tgt := 1556) hx hb dL_law_1541 (by decide) (fun c2 => ?_) (fun c2 => ?_)
  · refine lv_goto (tgt := 1803) hx hb dL_law_1556 (by decide) ?_
    refine W.widen (k := cells + 8) (n := slots + 242) (by omega) (by omega) ?_
    exact kk _ _ _ _ hI2 hP hD hS (lv_sub hl [2, 3, 4, 5, 6, 7] rfl)
  · obtain ⟨f, hf, hf0⟩ := hou c2
    refine lv_aload_n hx hb dL_law_1544 rfl (lv_at hl 5 rfl) ?_
    refine lv_iconst (v := 0) hx hb dL_law_1545 (by decide) ?_
    refine va_lald hx hb hK hP 36 2 hf htJ in01 dL_law_1546 ?_
    refine re_l (show f (0 : Int32).toNatClampNeg = r2.toInt64 from hf0) ?_
    refine lv_iload hx hb dL_law_1547 (lv_at hl 0 rfl) ?_
    refine lv_i2l hx hb dL_law_1549 rfl ?_
    refine W.lcmp hx hb dL_law_1550 ?_
    refine re_i (lg_cmp_self _) ?_
    refine lv_if_eq (tgt := 1556) hx hb dL_law_1551 (by decide) (fun _ => ?_) (fun c3 => absurd rfl c3)
    refine lv_goto (tgt := 1803) hx hb dL_law_1556 (by decide) ?_
    refine W.widen (k := cells + 8) (n := slots + 242) (by omega) (by omega) ?_
    exact kk _ _ _ _ hI2 hP hD hS (lv_sub hl [2, 3, 4, 5, 6, 7] rfl)
set_option maxHeartbeats 4000000 in
set_option maxRecDepth 100000 in
theorem case_claim {p : Program} {l : Launch} {e : Env} {s : State} {m : MethodId} {below : List Frame} {meth : Method} {c : Code} (hnt : l.stackTraces = false) {G : va_G} {tys : List (ClassId × FieldType)} {tE mi : Nat} {cI cO cJ cB : ClassId} (htI : tI tys cI) (htO : tO tys cO) (htJ : tys[2]? = some (cJ, .long)) (htB : tys[3]? = some (cB, .double)) {b L : Nat} {xs : Nat → Int32} (hL : L ≤ 2048) (C0 : lw_At p s m meth c b L xs) {v am oj od : Nat} (hK : va_K G vwCl tys s) (hE : env (fun q : Nat => s.heap.size ≤ q) tE mi s s.heap) {ws : va_W} {H : Heap} {locs : List Loc} {i : Nat} {x5 : Int32} {cells slots : Nat} {Q : State → Prop} {ls : Array Slot} (hi : i + 3 < L) (e5 : x5 = nI i) (hI : INV cI cO cJ cB tE v am oj od ws) (hP : va_P G vwCl ws H) (hD : va_D (fun q : Nat => s.heap.size ≤ q) ws) (hS : va_S (fun q : Nat => s.heap.size ≤ q) s.heap H locs) (hl : lv_has ls 10 [(0, .ref b), (1, .ref v), (2, .ref am), (3, .ref oj), (4, .ref od), (5, .int x5)]) (hc : cells + 8 ≤ 601024) (hs : slots + 242 ≤ 7293034) (kk : ∀ (w : va_W) (H1 : Heap) (locs1 : List Loc) (ls1 : Array Slot), INV cI cO cJ cB tE v am oj od w → va_P G vwCl w H1 → va_D (fun q : Nat => s.heap.size ≤ q) w → va_S (fun q : Nat => s.heap.size ≤ q) s.heap H1 locs1 → lv_has ls1 10 [(0, .ref b), (1, .ref v), (2, .ref am), (3, .ref oj), (4, .ref od), (5, .int x5)] → W p l e room_1 s m #[Value.ref b] below meth c H1 locs1 (cells + 8) (slots + 242) Q (F0 m 1803 ls1 [])) : W p l e room_1 s m #[Value.ref b] below meth c H locs (cells) (slots) Q (F0 m 1559 ls []) := by
  obtain ⟨hx, hb, hr, hml, hown, hts0, hX, hbl, hlocks, hgv⟩ := C0
  have hts : ∀ w ∈ wsL_law, w.before #[Value.ref b] s = true := fun w h => hts0 w (wsL_law_in w h)
  have hown : s.vm.findClass RL = some m.cls := hown
  have hA : ∀ q : Nat, s.heap.size ≤ q → (fun q : Nat => s.heap.size ≤ q) q := fun _ h => h
  have hbA : ¬ (fun q : Nat => s.heap.size ≤ q) b := Nat.not_le.mpr hbl
  have g1 : vp_in (x5 + 1) L := by rw [e5, show nI i + 1 = nI (i + 1) from nI_add i 1]; exact vp_in_nI (by omega) (by omega)
  obtain ⟨a1, ea1⟩ : ∃ y, y = xs (x5 + 1).toNatClampNeg := ⟨_, rfl⟩
  have g2 : vp_in (x5 + 2) L := by rw [e5, show nI i + 2 = nI (i + 2) from nI_add i 2]; exact vp_in_nI (by omega) (by omega)
  obtain ⟨a2, ea2⟩ : ∃ y, y = xs (x5 + 2).toNatClampNeg := ⟨_, rfl⟩
  have g3 : vp_in (x5 + 3) L := by rw [e5, show nI i + 3 = nI (i + 3) from nI_add i 3]; exact vp_in_nI (by omega) (by omega)
  obtain ⟨a3, ea3⟩ : ∃ y, y = xs (x5 + 3).toNatClampNeg := ⟨_, rfl⟩
  obtain ⟨Mid, hH, hM⟩ := sem_claim (A := (fun q : Nat => s.heap.size ≤ q)) (mi := mi) l hnt G tys htI htO htJ htB hI a1 a2 a3
  refine lv_aload_n hx hb dL_law_1559 rfl (lv_at hl 1 rfl) ?_
  refine lv_aload_n hx hb dL_law_1560 rfl (lv_at hl 0 rfl) ?_
  refine lv_iload hx hb dL_law_1561 (lv_at hl 5 rfl) ?_
  refine lv_iconst (v := 1) hx hb dL_law_1563 (by decide) ?_
  refine lv_iadd hx hb dL_law_1564 ?_
  refine va_sld hx hb hX hbl hbA hS g1 dL_law_1565 ?_
  refine re_i ea1.symm ?_
  refine lv_aload_n hx hb dL_law_1566 rfl (lv_at hl 0 rfl) ?_
  refine lv_iload hx hb dL_law_1567 (lv_at hl 5 rfl) ?_
  refine lv_iconst (v := 2) hx hb dL_law_1569 (by decide) ?_
  refine lv_iadd hx hb dL_law_1570 ?_
  refine va_sld hx hb hX hbl hbA hS g2 dL_law_1571 ?_
  refine re_i ea2.symm ?_
  refine lv_aload_n hx hb dL_law_1572 rfl (lv_at hl 0 rfl) ?_
  refine lv_iload hx hb dL_law_1573 (lv_at hl 5 rfl) ?_
  refine lv_iconst (v := 3) hx hb dL_law_1575 (by decide) ?_
  refine lv_iadd hx hb dL_law_1576 ?_
  refine va_sld hx hb hX hbl hbA hS g3 dL_law_1577 ?_
  refine re_i ea3.symm ?_
  refine lv_aload_n hx hb dL_law_1578 rfl (lv_at hl 3 rfl) ?_
  refine va_calli (vx_runSW (As := [.ref v, .int a1, .int a2, .int a3, .ref oj]) (rest := []) ⟨hx, hb, hml, hown, hts⟩ hH (vx_cwSW 5 hts gL_law_L_claim rfl rfl rfl (by decide +kernel) ⟨Nat.le_of_ble_eq_true rfl, Nat.le_of_ble_eq_true rfl⟩) ⟨pcX_b, pcX_u hP hK hD hS hA hE⟩ rfl rfl hl.1 rfl (lv_room (Nat.le_of_ble_eq_true rfl)) dL_law_1579 ⟨by show cells + 8 ≤ 601024; omega, by show slots + 242 ≤ 7293034; omega⟩) hS (fun q _ h => h) (fun q h => h) (fun k1 w t H locs ht hvm hMk hB hsz hk1 hS => ?_)
  rw [ht] at hB
  obtain ⟨hP, hD⟩ := hB
  obtain ⟨⟨vs12, h12⟩, hR⟩ := hM k1 w hMk
  refine lv_istore (lv' := [(6, .int k1), (0, .ref b), (1, .ref v), (2, .ref am), (3, .ref oj), (4, .ref od), (5, .int x5)]) hx hb dL_law_1582 hl (by decide) rfl (fun ls hl => ?_)
  refine lv_aload_n hx hb dL_law_1584 rfl (lv_at hl 3 rfl) ?_
  refine lv_aload_n hx hb dL_law_1585 rfl (lv_at hl 1 rfl) ?_
  refine lv_iload hx hb dL_law_1586 (lv_at hl 6 rfl) ?_
  refine lv_iconst (v := 1) hx hb dL_law_1588 (by decide) ?_
  refine lv_iadd hx hb dL_law_1589 ?_
  refine va_sld hx hb hX hbl hbA hS g1 dL_law_1590 ?_
  refine re_i ea1.symm ?_
  refine lv_aload_n hx hb dL_law_1591 rfl (lv_at hl 1 rfl) ?_
  refine lv_iload hx hb dL_law_1592 (lv_at hl 6 rfl) ?_
  refine lv_iconst (v := 2) hx hb dL_law_1594 (by decide) ?_
  refine lv_iadd hx hb dL_law_1595 ?_
  refine va_sld hx hb hX hbl hbA hS g2 dL_law_1596 ?_
  refine re_i ea2.symm ?_
  refine lv_aload_n hx hb dL_law_1597 rfl (lv_at hl 1 rfl) ?_
  refine lv_iload hx hb dL_law_1598 (lv_at hl 6 rfl) ?_
  refine lv_iconst (v := 3) hx hb dL_law_1600 (by decide) ?_
  refine lv_iadd hx hb dL_law_1601 ?_
  refine va_sld hx hb hX hbl hbA hS g3 dL_law_1602 ?_
  refine re_i ea3.symm ?_
  refine va_calli (va_runV (As := [.int a1, .int a2, .int a3]) (rest := []) ⟨hx, hb, hml, hown, hts⟩ hR (cwV 3 hts gL_law_X8_claim rfl rfl rfl (by decide +kernel) ⟨Nat.le_of_ble_eq_true rfl, Nat.le_of_ble_eq_true rfl⟩) ⟨pcM_b, va_recv hK hP (ci := 9) (q0 := 12) rfl h12, pcM_u hP hK hD hS hA⟩ rfl rfl hl.1 rfl (lv_room (Nat.le_of_ble_eq_true rfl)) dL_law_1603 ⟨by show cells + 8 + 0 ≤ 601024; omega, by show slots + 242 + 0 ≤ 7293034; omega⟩) hS (fun q _ h => h) (fun q h => h) (fun r2 w2 t H locs ht hvm hE2 hB hsz hk1 hS => ?_)
  rw [ht] at hB
  obtain ⟨hP, hD⟩ := hB
  obtain ⟨⟨ad, z, wi, dm, hm, hz⟩, hou, hI2⟩ := hE2
  refine lv_istore (lv' := [(7, .int r2), (6, .int k1), (0, .ref b), (1, .ref v), (2, .ref am), (3, .ref oj), (4, .ref od), (5, .int x5)]) hx hb dL_law_1606 hl (by decide) rfl (fun ls hl => ?_)
  refine lv_aload_n hx hb dL_law_1608 rfl (lv_at hl 4 rfl) ?_
  refine vp_callSi (va_Run.run (va_runV (As := []) (rest := []) ⟨hx, hb, hml, hown, hts⟩ (metX8_thrown l G tys w2 (F := fun _ _ => 0) hm) (cwV 0 hts gL_law_X8_thrown rfl rfl rfl (by decide +kernel) ⟨Nat.le_of_ble_eq_true rfl, Nat.le_of_ble_eq_true rfl⟩) ⟨pcR_b, va_recv hK hP (ci := 9) (q0 := 12) rfl hm, pcR_u hP hK⟩ rfl rfl hl.1 rfl (lv_room (Nat.le_of_ble_eq_true rfl)) dL_law_1609 ⟨by show cells + 8 + 0 ≤ 601024; omega, by show slots + 242 + 0 ≤ 7293034; omega⟩)) (fun r3 h3 => ?_)
  refine lv_iload hx hb dL_law_1612 (lv_at hl 1 rfl) ?_
  refine lv_icmp_eq (tgt := 1619) hx hb dL_law_1614 (by decide) (fun c1 => ?_) (fun c1 => absurd (h3.trans hz) c1)
  refine lv_iload hx hb dL_law_1619 (lv_at hl 1 rfl) ?_
  refine lv_if_ne (tgt := 1636) hx hb dL_law_1621 (by decide) (fun c2 => ?_) (fun c2 => ?_)
  · refine lv_goto (tgt := 1803) hx hb dL_law_1636 (by decide) ?_
    refine W.widen (k := cells + 8) (n := slots + 242) (by omega) (by omega) ?_
    exact kk _ _ _ _ hI2 hP hD hS (lv_sub hl [2, 3, 4, 5, 6, 7] rfl)
  · obtain ⟨f, hf, hf0⟩ := hou c2
    refine lv_aload_n hx hb dL_law_1624 rfl (lv_at hl 5 rfl) ?_
    refine lv_iconst (v := 0) hx hb dL_law_1625 (by decide) ?_
    refine va_lald hx hb hK hP 36 2 hf htJ in01 dL_law_1626 ?_
    refine re_l (show f (0 : Int32).toNatClampNeg = r2.toInt64 from hf0) ?_
    refine lv_iload hx hb dL_law_1627 (lv_at hl 0 rfl) ?_
    refine lv_i2l hx hb dL_law_1629 rfl ?_
    refine W.lcmp hx hb dL_law_1630 ?_
    refine re_i (lg_cmp_self _) ?_
    refine lv_if_eq (tgt := 1636) hx hb dL_law_1631 (by decide) (fun _ => ?_) (fun c3 => absurd rfl c3)
    refine lv_goto (tgt := 1803) hx hb dL_law_1636 (by decide) ?_
    refine W.widen (k := cells + 8) (n := slots + 242) (by omega) (by omega) ?_
    exact kk _ _ _ _ hI2 hP hD hS (lv_sub hl [2, 3, 4, 5, 6, 7] rfl)
set_option maxHeartbeats 4000000 in
set_option maxRecDepth 100000 in
theorem case_repeats {p : Program} {l : Launch} {e : Env} {s : State} {m : MethodId} {below : List Frame} {meth : Method} {c : Code} (hnt : l.stackTraces = false) {G : va_G} {tys : List (ClassId × FieldType)} {tE mi : Nat} {cI cO cJ cB : ClassId} (htI : tI tys cI) (htO : tO tys cO) (htJ : tys[2]? = some (cJ, .long)) (htB : tys[3]? = some (cB, .double)) {b L : Nat} {xs : Nat → Int32} (hL : L ≤ 2048) (C0 : lw_At p s m meth c b L xs) {v am oj od : Nat} (hK : va_K G vwCl tys s) (hE : env (fun q : Nat => s.heap.size ≤ q) tE mi s s.heap) {ws : va_W} {H : Heap} {locs : List Loc} {i : Nat} {x5 : Int32} {cells slots : Nat} {Q : State → Prop} {ls : Array Slot} (hi : i + 3 < L) (e5 : x5 = nI i) (hI : INV cI cO cJ cB tE v am oj od ws) (hP : va_P G vwCl ws H) (hD : va_D (fun q : Nat => s.heap.size ≤ q) ws) (hS : va_S (fun q : Nat => s.heap.size ≤ q) s.heap H locs) (hl : lv_has ls 10 [(0, .ref b), (1, .ref v), (2, .ref am), (3, .ref oj), (4, .ref od), (5, .int x5)]) (hc : cells + 8 ≤ 601024) (hs : slots + 242 ≤ 7293034) (kk : ∀ (w : va_W) (H1 : Heap) (locs1 : List Loc) (ls1 : Array Slot), INV cI cO cJ cB tE v am oj od w → va_P G vwCl w H1 → va_D (fun q : Nat => s.heap.size ≤ q) w → va_S (fun q : Nat => s.heap.size ≤ q) s.heap H1 locs1 → lv_has ls1 10 [(0, .ref b), (1, .ref v), (2, .ref am), (3, .ref oj), (4, .ref od), (5, .int x5)] → W p l e room_1 s m #[Value.ref b] below meth c H1 locs1 (cells + 8) (slots + 242) Q (F0 m 1803 ls1 [])) : W p l e room_1 s m #[Value.ref b] below meth c H locs (cells) (slots) Q (F0 m 1639 ls []) := by
  obtain ⟨hx, hb, hr, hml, hown, hts0, hX, hbl, hlocks, hgv⟩ := C0
  have hts : ∀ w ∈ wsL_law, w.before #[Value.ref b] s = true := fun w h => hts0 w (wsL_law_in w h)
  have hown : s.vm.findClass RL = some m.cls := hown
  have hA : ∀ q : Nat, s.heap.size ≤ q → (fun q : Nat => s.heap.size ≤ q) q := fun _ h => h
  have hbA : ¬ (fun q : Nat => s.heap.size ≤ q) b := Nat.not_le.mpr hbl
  have g1 : vp_in (x5 + 1) L := by rw [e5, show nI i + 1 = nI (i + 1) from nI_add i 1]; exact vp_in_nI (by omega) (by omega)
  obtain ⟨a1, ea1⟩ : ∃ y, y = xs (x5 + 1).toNatClampNeg := ⟨_, rfl⟩
  have g2 : vp_in (x5 + 2) L := by rw [e5, show nI i + 2 = nI (i + 2) from nI_add i 2]; exact vp_in_nI (by omega) (by omega)
  obtain ⟨a2, ea2⟩ : ∃ y, y = xs (x5 + 2).toNatClampNeg := ⟨_, rfl⟩
  have g3 : vp_in (x5 + 3) L := by rw [e5, show nI i + 3 = nI (i + 3) from nI_add i 3]; exact vp_in_nI (by omega) (by omega)
  obtain ⟨a3, ea3⟩ : ∃ y, y = xs (x5 + 3).toNatClampNeg := ⟨_, rfl⟩
  obtain ⟨a4, ea4⟩ : ∃ y : Int32, y = (if a3 = 0 then 0 else 1) := ⟨_, rfl⟩
  obtain ⟨Mid, hH, hM⟩ := sem_repeats (A := (fun q : Nat => s.heap.size ≤ q)) (mi := mi) l hnt G tys htI htO htJ htB hI a1 a2 a4
  refine lv_aload_n hx hb dL_law_1639 rfl (lv_at hl 1 rfl) ?_
  refine lv_aload_n hx hb dL_law_1640 rfl (lv_at hl 0 rfl) ?_
  refine lv_iload hx hb dL_law_1641 (lv_at hl 5 rfl) ?_
  refine lv_iconst (v := 1) hx hb dL_law_1643 (by decide) ?_
  refine lv_iadd hx hb dL_law_1644 ?_
  refine va_sld hx hb hX hbl hbA hS g1 dL_law_1645 ?_
  refine re_i ea1.symm ?_
  refine lv_aload_n hx hb dL_law_1646 rfl (lv_at hl 0 rfl) ?_
  refine lv_iload hx hb dL_law_1647 (lv_at hl 5 rfl) ?_
  refine lv_iconst (v := 2) hx hb dL_law_1649 (by decide) ?_
  refine lv_iadd hx hb dL_law_1650 ?_
  refine va_sld hx hb hX hbl hbA hS g2 dL_law_1651 ?_
  refine re_i ea2.symm ?_
  refine lv_aload_n hx hb dL_law_1652 rfl (lv_at hl 0 rfl) ?_
  refine lv_iload hx hb dL_law_1653 (lv_at hl 5 rfl) ?_
  refine lv_iconst (v := 3) hx hb dL_law_1655 (by decide) ?_
  refine lv_iadd hx hb dL_law_1656 ?_
  refine va_sld hx hb hX hbl hbA hS g3 dL_law_1657 ?_
  refine re_i ea3.symm ?_
  refine cut_i (ls := ls) (rest := [.int a2, .int a1, .ref v]) a4 1666 _ ?_ (fun kj => ?_)
  rotate_left
  · refine lv_if_eq (tgt := 1665) hx hb dL_law_1658 (by decide) (fun c0 => ?_) (fun c0 => ?_)
    · refine lv_iconst (v := 0) hx hb dL_law_1665 (by decide) ?_
      exact kj 0 (by rw [ea4, if_pos c0])
    · refine lv_iconst (v := 1) hx hb dL_law_1661 (by decide) ?_
      refine lv_goto (tgt := 1666) hx hb dL_law_1662 (by decide) ?_
      exact kj 1 (by rw [ea4, if_neg c0])
  refine lv_aload_n hx hb dL_law_1666 rfl (lv_at hl 3 rfl) ?_
  refine va_calli (vx_runSW (As := [.ref v, .int a1, .int a2, .int a4, .ref oj]) (rest := []) ⟨hx, hb, hml, hown, hts⟩ hH (vx_cwSW 5 hts gL_law_L_repeats rfl rfl rfl (by decide +kernel) ⟨Nat.le_of_ble_eq_true rfl, Nat.le_of_ble_eq_true rfl⟩) ⟨pcX_b, pcX_u hP hK hD hS hA hE⟩ rfl rfl hl.1 rfl (lv_room (Nat.le_of_ble_eq_true rfl)) dL_law_1667 ⟨by show cells + 2 ≤ 601024; omega, by show slots + 12 ≤ 7293034; omega⟩) hS (fun q _ h => h) (fun q h => h) (fun k1 w t H locs ht hvm hMk hB hsz hk1 hS => ?_)
  rw [ht] at hB
  obtain ⟨hP, hD⟩ := hB
  obtain ⟨⟨vs12, h12⟩, hR⟩ := hM k1 w hMk
  refine lv_istore (lv' := [(6, .int k1), (0, .ref b), (1, .ref v), (2, .ref am), (3, .ref oj), (4, .ref od), (5, .int x5)]) hx hb dL_law_1670 hl (by decide) rfl (fun ls hl => ?_)
  refine lv_aload_n hx hb dL_law_1672 rfl (lv_at hl 3 rfl) ?_
  refine lv_aload_n hx hb dL_law_1673 rfl (lv_at hl 1 rfl) ?_
  refine lv_iload hx hb dL_law_1674 (lv_at hl 6 rfl) ?_
  refine lv_iconst (v := 1) hx hb dL_law_1676 (by decide) ?_
  refine lv_iadd hx hb dL_law_1677 ?_
  refine va_sld hx hb hX hbl hbA hS g1 dL_law_1678 ?_
  refine re_i ea1.symm ?_
  refine lv_aload_n hx hb dL_law_1679 rfl (lv_at hl 1 rfl) ?_
  refine lv_iload hx hb dL_law_1680 (lv_at hl 6 rfl) ?_
  refine lv_iconst (v := 2) hx hb dL_law_1682 (by decide) ?_
  refine lv_iadd hx hb dL_law_1683 ?_
  refine va_sld hx hb hX hbl hbA hS g2 dL_law_1684 ?_
  refine re_i ea2.symm ?_
  refine lv_aload_n hx hb dL_law_1685 rfl (lv_at hl 1 rfl) ?_
  refine lv_iload hx hb dL_law_1686 (lv_at hl 6 rfl) ?_
  refine lv_iconst (v := 3) hx hb dL_law_1688 (by decide) ?_
  refine lv_iadd hx hb dL_law_1689 ?_
  refine va_sld hx hb hX hbl hbA hS g3 dL_law_1690 ?_
  refine re_i ea3.symm ?_
  refine cut_i (ls := ls) (rest := [.int a2, .int a1, .ref am]) a4 1699 _ ?_ (fun kj => ?_)
  rotate_left
  · refine lv_if_eq (tgt := 1698) hx hb dL_law_1691 (by decide) (fun c0 => ?_) (fun c0 => ?_)
    · refine lv_iconst (v := 0) hx hb dL_law_1698 (by decide) ?_
      exact kj 0 (by rw [ea4, if_pos c0])
    · refine lv_iconst (v := 1) hx hb dL_law_1694 (by decide) ?_
      refine lv_goto (tgt := 1699) hx hb dL_law_1695 (by decide) ?_
      exact kj 1 (by rw [ea4, if_neg c0])
  refine va_calli (va_runV (As := [.int a1, .int a2, .int a4]) (rest := []) ⟨hx, hb, hml, hown, hts⟩ hR (cwV 3 hts gL_law_X8_repeats rfl rfl rfl (by decide +kernel) ⟨Nat.le_of_ble_eq_true rfl, Nat.le_of_ble_eq_true rfl⟩) ⟨pcM_b, va_recv hK hP (ci := 9) (q0 := 12) rfl h12, pcM_u hP hK hD hS hA⟩ rfl rfl hl.1 rfl (lv_room (Nat.le_of_ble_eq_true rfl)) dL_law_1699 ⟨by show cells + 2 + 0 ≤ 601024; omega, by show slots + 12 + 0 ≤ 7293034; omega⟩) hS (fun q _ h => h) (fun q h => h) (fun r2 w2 t H locs ht hvm hE2 hB hsz hk1 hS => ?_)
  rw [ht] at hB
  obtain ⟨hP, hD⟩ := hB
  obtain ⟨⟨ad, z, wi, dm, hm, hz⟩, hou, hI2⟩ := hE2
  refine lv_istore (lv' := [(7, .int r2), (6, .int k1), (0, .ref b), (1, .ref v), (2, .ref am), (3, .ref oj), (4, .ref od), (5, .int x5)]) hx hb dL_law_1702 hl (by decide) rfl (fun ls hl => ?_)
  refine lv_aload_n hx hb dL_law_1704 rfl (lv_at hl 4 rfl) ?_
  refine vp_callSi (va_Run.run (va_runV (As := []) (rest := []) ⟨hx, hb, hml, hown, hts⟩ (metX8_thrown l G tys w2 (F := fun _ _ => 0) hm) (cwV 0 hts gL_law_X8_thrown rfl rfl rfl (by decide +kernel) ⟨Nat.le_of_ble_eq_true rfl, Nat.le_of_ble_eq_true rfl⟩) ⟨pcR_b, va_recv hK hP (ci := 9) (q0 := 12) rfl hm, pcR_u hP hK⟩ rfl rfl hl.1 rfl (lv_room (Nat.le_of_ble_eq_true rfl)) dL_law_1705 ⟨by show cells + 2 + 0 ≤ 601024; omega, by show slots + 12 + 0 ≤ 7293034; omega⟩)) (fun r3 h3 => ?_)
  refine lv_iload hx hb dL_law_1708 (lv_at hl 1 rfl) ?_
  refine lv_icmp_eq (tgt := 1715) hx hb dL_law_1710 (by decide) (fun c1 => ?_) (fun c1 => absurd (h3.trans hz) c1)
  refine lv_iload hx hb dL_law_1715 (lv_at hl 1 rfl) ?_
  refine lv_if_ne (tgt := 1732) hx hb dL_law_1717 (by decide) (fun c2 => ?_) (fun c2 => ?_)
  · refine lv_goto (tgt := 1803) hx hb dL_law_1732 (by decide) ?_
    refine W.widen (k := cells + 8) (n := slots + 242) (by omega) (by omega) ?_
    exact kk _ _ _ _ hI2 hP hD hS (lv_sub hl [2, 3, 4, 5, 6, 7] rfl)
  · obtain ⟨f, hf, hf0⟩ := hou c2
    refine lv_aload_n hx hb dL_law_1720 rfl (lv_at hl 5 rfl) ?_
    refine lv_iconst (v := 0) hx hb dL_law_1721 (by decide) ?_
    refine va_lald hx hb hK hP 36 2 hf htJ in01 dL_law_1722 ?_
    refine re_l (show f (0 : Int32).toNatClampNeg = r2.toInt64 from hf0) ?_
    refine lv_iload hx hb dL_law_1723 (lv_at hl 0 rfl) ?_
    refine lv_i2l hx hb dL_law_1725 rfl ?_
    refine W.lcmp hx hb dL_law_1726 ?_
    refine re_i (lg_cmp_self _) ?_
    refine lv_if_eq (tgt := 1732) hx hb dL_law_1727 (by decide) (fun _ => ?_) (fun c3 => absurd rfl c3)
    refine lv_goto (tgt := 1803) hx hb dL_law_1732 (by decide) ?_
    refine W.widen (k := cells + 8) (n := slots + 242) (by omega) (by omega) ?_
    exact kk _ _ _ _ hI2 hP hD hS (lv_sub hl [2, 3, 4, 5, 6, 7] rfl)
set_option maxHeartbeats 4000000 in
set_option maxRecDepth 100000 in
theorem case_judge {p : Program} {l : Launch} {e : Env} {s : State} {m : MethodId} {below : List Frame} {meth : Method} {c : Code} (hnt : l.stackTraces = false) {G : va_G} {tys : List (ClassId × FieldType)} {tE mi : Nat} {cI cO cJ cB : ClassId} (htI : tI tys cI) (htO : tO tys cO) (htJ : tys[2]? = some (cJ, .long)) (htB : tys[3]? = some (cB, .double)) {b L : Nat} {xs : Nat → Int32} (hL : L ≤ 2048) (C0 : lw_At p s m meth c b L xs) {v am oj od : Nat} (hK : va_K G vwCl tys s) (hE : env (fun q : Nat => s.heap.size ≤ q) tE mi s s.heap) {ws : va_W} {H : Heap} {locs : List Loc} {i : Nat} {x5 : Int32} {cells slots : Nat} {Q : State → Prop} {ls : Array Slot} (hi : i + 3 < L) (e5 : x5 = nI i) (hI : INV cI cO cJ cB tE v am oj od ws) (hP : va_P G vwCl ws H) (hD : va_D (fun q : Nat => s.heap.size ≤ q) ws) (hS : va_S (fun q : Nat => s.heap.size ≤ q) s.heap H locs) (hl : lv_has ls 10 [(0, .ref b), (1, .ref v), (2, .ref am), (3, .ref oj), (4, .ref od), (5, .int x5)]) (hc : cells + 8 ≤ 601024) (hs : slots + 242 ≤ 7293034) (kk : ∀ (w : va_W) (H1 : Heap) (locs1 : List Loc) (ls1 : Array Slot), INV cI cO cJ cB tE v am oj od w → va_P G vwCl w H1 → va_D (fun q : Nat => s.heap.size ≤ q) w → va_S (fun q : Nat => s.heap.size ≤ q) s.heap H1 locs1 → lv_has ls1 10 [(0, .ref b), (1, .ref v), (2, .ref am), (3, .ref oj), (4, .ref od), (5, .int x5)] → W p l e room_1 s m #[Value.ref b] below meth c H1 locs1 (cells + 8) (slots + 242) Q (F0 m 1803 ls1 [])) : W p l e room_1 s m #[Value.ref b] below meth c H locs (cells) (slots) Q (F0 m 1735 ls []) := by
  obtain ⟨hx, hb, hr, hml, hown, hts0, hX, hbl, hlocks, hgv⟩ := C0
  have hts : ∀ w ∈ wsL_law, w.before #[Value.ref b] s = true := fun w h => hts0 w (wsL_law_in w h)
  have hown : s.vm.findClass RL = some m.cls := hown
  have hA : ∀ q : Nat, s.heap.size ≤ q → (fun q : Nat => s.heap.size ≤ q) q := fun _ h => h
  have hbA : ¬ (fun q : Nat => s.heap.size ≤ q) b := Nat.not_le.mpr hbl
  have g1 : vp_in (x5 + 1) L := by rw [e5, show nI i + 1 = nI (i + 1) from nI_add i 1]; exact vp_in_nI (by omega) (by omega)
  obtain ⟨a1, ea1⟩ : ∃ y, y = xs (x5 + 1).toNatClampNeg := ⟨_, rfl⟩
  have g2 : vp_in (x5 + 2) L := by rw [e5, show nI i + 2 = nI (i + 2) from nI_add i 2]; exact vp_in_nI (by omega) (by omega)
  obtain ⟨a2, ea2⟩ : ∃ y, y = xs (x5 + 2).toNatClampNeg := ⟨_, rfl⟩
  obtain ⟨Mid, hH, hM⟩ := sem_judge (A := (fun q : Nat => s.heap.size ≤ q)) (mi := mi) l hnt G tys htI htO htJ htB hI a1 a2
  refine lv_aload_n hx hb dL_law_1735 rfl (lv_at hl 1 rfl) ?_
  refine lv_aload_n hx hb dL_law_1736 rfl (lv_at hl 0 rfl) ?_
  refine lv_iload hx hb dL_law_1737 (lv_at hl 5 rfl) ?_
  refine lv_iconst (v := 1) hx hb dL_law_1739 (by decide) ?_
  refine lv_iadd hx hb dL_law_1740 ?_
  refine va_sld hx hb hX hbl hbA hS g1 dL_law_1741 ?_
  refine re_i ea1.symm ?_
  refine lv_aload_n hx hb dL_law_1742 rfl (lv_at hl 0 rfl) ?_
  refine lv_iload hx hb dL_law_1743 (lv_at hl 5 rfl) ?_
  refine lv_iconst (v := 2) hx hb dL_law_1745 (by decide) ?_
  refine lv_iadd hx hb dL_law_1746 ?_
  refine va_sld hx hb hX hbl hbA hS g2 dL_law_1747 ?_
  refine re_i ea2.symm ?_
  refine lv_aload_n hx hb dL_law_1748 rfl (lv_at hl 3 rfl) ?_
  refine va_calli (vx_runSW (As := [.ref v, .int a1, .int a2, .ref oj]) (rest := []) ⟨hx, hb, hml, hown, hts⟩ hH (vx_cwSW 4 hts gL_law_L_judge rfl rfl rfl (by decide +kernel) ⟨Nat.le_of_ble_eq_true rfl, Nat.le_of_ble_eq_true rfl⟩) ⟨pcX_b, pcX_u hP hK hD hS hA hE⟩ rfl rfl hl.1 rfl (lv_room (Nat.le_of_ble_eq_true rfl)) dL_law_1749 ⟨by show cells + 2 ≤ 601024; omega, by show slots + 12 ≤ 7293034; omega⟩) hS (fun q _ h => h) (fun q h => h) (fun k1 w t H locs ht hvm hMk hB hsz hk1 hS => ?_)
  rw [ht] at hB
  obtain ⟨hP, hD⟩ := hB
  obtain ⟨⟨vs12, h12⟩, hR⟩ := hM k1 w hMk
  refine lv_istore (lv' := [(6, .int k1), (0, .ref b), (1, .ref v), (2, .ref am), (3, .ref oj), (4, .ref od), (5, .int x5)]) hx hb dL_law_1752 hl (by decide) rfl (fun ls hl => ?_)
  refine lv_aload_n hx hb dL_law_1754 rfl (lv_at hl 3 rfl) ?_
  refine lv_aload_n hx hb dL_law_1755 rfl (lv_at hl 1 rfl) ?_
  refine lv_iload hx hb dL_law_1756 (lv_at hl 6 rfl) ?_
  refine lv_iconst (v := 1) hx hb dL_law_1758 (by decide) ?_
  refine lv_iadd hx hb dL_law_1759 ?_
  refine va_sld hx hb hX hbl hbA hS g1 dL_law_1760 ?_
  refine re_i ea1.symm ?_
  refine lv_aload_n hx hb dL_law_1761 rfl (lv_at hl 1 rfl) ?_
  refine lv_iload hx hb dL_law_1762 (lv_at hl 6 rfl) ?_
  refine lv_iconst (v := 2) hx hb dL_law_1764 (by decide) ?_
  refine lv_iadd hx hb dL_law_1765 ?_
  refine va_sld hx hb hX hbl hbA hS g2 dL_law_1766 ?_
  refine re_i ea2.symm ?_
  refine va_calli (va_runV (As := [.int a1, .int a2]) (rest := []) ⟨hx, hb, hml, hown, hts⟩ hR (cwV 2 hts gL_law_X8_judge rfl rfl rfl (by decide +kernel) ⟨Nat.le_of_ble_eq_true rfl, Nat.le_of_ble_eq_true rfl⟩) ⟨pcM_b, va_recv hK hP (ci := 9) (q0 := 12) rfl h12, pcM_u hP hK hD hS hA⟩ rfl rfl hl.1 rfl (lv_room (Nat.le_of_ble_eq_true rfl)) dL_law_1767 ⟨by show cells + 2 + 0 ≤ 601024; omega, by show slots + 12 + 0 ≤ 7293034; omega⟩) hS (fun q _ h => h) (fun q h => h) (fun r2 w2 t H locs ht hvm hE2 hB hsz hk1 hS => ?_)
  rw [ht] at hB
  obtain ⟨hP, hD⟩ := hB
  obtain ⟨⟨ad, z, wi, dm, hm, hz⟩, hou, hI2⟩ := hE2
  refine lv_istore (lv' := [(7, .int r2), (6, .int k1), (0, .ref b), (1, .ref v), (2, .ref am), (3, .ref oj), (4, .ref od), (5, .int x5)]) hx hb dL_law_1770 hl (by decide) rfl (fun ls hl => ?_)
  refine lv_aload_n hx hb dL_law_1772 rfl (lv_at hl 4 rfl) ?_
  refine vp_callSi (va_Run.run (va_runV (As := []) (rest := []) ⟨hx, hb, hml, hown, hts⟩ (metX8_thrown l G tys w2 (F := fun _ _ => 0) hm) (cwV 0 hts gL_law_X8_thrown rfl rfl rfl (by decide +kernel) ⟨Nat.le_of_ble_eq_true rfl, Nat.le_of_ble_eq_true rfl⟩) ⟨pcR_b, va_recv hK hP (ci := 9) (q0 := 12) rfl hm, pcR_u hP hK⟩ rfl rfl hl.1 rfl (lv_room (Nat.le_of_ble_eq_true rfl)) dL_law_1773 ⟨by show cells + 2 + 0 ≤ 601024; omega, by show slots + 12 + 0 ≤ 7293034; omega⟩)) (fun r3 h3 => ?_)
  refine lv_iload hx hb dL_law_1776 (lv_at hl 1 rfl) ?_
  refine lv_icmp_eq (tgt := 1783) hx hb dL_law_1778 (by decide) (fun c1 => ?_) (fun c1 => absurd (h3.trans hz) c1)
  refine lv_iload hx hb dL_law_1783 (lv_at hl 1 rfl) ?_
  refine lv_if_ne (tgt := 1800) hx hb dL_law_1785 (by decide) (fun c2 => ?_) (fun c2 => ?_)
  · refine lv_goto (tgt := 1803) hx hb dL_law_1800 (by decide) ?_
    refine W.widen (k := cells + 8) (n := slots + 242) (by omega) (by omega) ?_
    exact kk _ _ _ _ hI2 hP hD hS (lv_sub hl [2, 3, 4, 5, 6, 7] rfl)
  · obtain ⟨f, hf, hf0⟩ := hou c2
    refine lv_aload_n hx hb dL_law_1788 rfl (lv_at hl 5 rfl) ?_
    refine lv_iconst (v := 0) hx hb dL_law_1789 (by decide) ?_
    refine va_lald hx hb hK hP 36 2 hf htJ in01 dL_law_1790 ?_
    refine re_l (show f (0 : Int32).toNatClampNeg = r2.toInt64 from hf0) ?_
    refine lv_iload hx hb dL_law_1791 (lv_at hl 0 rfl) ?_
    refine lv_i2l hx hb dL_law_1793 rfl ?_
    refine W.lcmp hx hb dL_law_1794 ?_
    refine re_i (lg_cmp_self _) ?_
    refine lv_if_eq (tgt := 1800) hx hb dL_law_1795 (by decide) (fun _ => ?_) (fun c3 => absurd rfl c3)
    refine lv_goto (tgt := 1803) hx hb dL_law_1800 (by decide) ?_
    refine W.widen (k := cells + 8) (n := slots + 242) (by omega) (by omega) ?_
    exact kk _ _ _ _ hI2 hP hD hS (lv_sub hl [2, 3, 4, 5, 6, 7] rfl)
