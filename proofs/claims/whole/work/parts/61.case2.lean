set_option maxHeartbeats 4000000 in
set_option maxRecDepth 100000 in
theorem case_avalanche {p : Program} {l : Launch} {e : Env} {s : State} {m : MethodId} {below : List Frame} {meth : Method} {c : Code} (hnt : l.stackTraces = false) {G : va_G} {tys : List (ClassId × FieldType)} {tE mi : Nat} {cI cO cJ cB : ClassId} (htI : tI tys cI) (htO : tO tys cO) (htJ : tys[2]? = some (cJ, .long)) (htB : tys[3]? = some (cB, .double)) {b L : Nat} {xs : Nat → Int32} (hL : L ≤ 2048) (C0 : lw_At p s m meth c b L xs) {v am oj od : Nat} (hK : va_K G vwCl tys s) (hE : env (fun q : Nat => s.heap.size ≤ q) tE mi s s.heap) {ws : va_W} {H : Heap} {locs : List Loc} {i : Nat} {x5 : Int32} {cells slots : Nat} {Q : State → Prop} {ls : Array Slot} (hi : i + 3 < L) (e5 : x5 = nI i) (hI : INV cI cO cJ cB tE v am oj od ws) (hP : va_P G vwCl ws H) (hD : va_D (fun q : Nat => s.heap.size ≤ q) ws) (hS : va_S (fun q : Nat => s.heap.size ≤ q) s.heap H locs) (hl : lv_has ls 10 [(0, .ref b), (1, .ref v), (2, .ref am), (3, .ref oj), (4, .ref od), (5, .int x5)]) (hc : cells + 8 ≤ 601024) (hs : slots + 242 ≤ 7293034) (kk : ∀ (w : va_W) (H1 : Heap) (locs1 : List Loc) (ls1 : Array Slot), INV cI cO cJ cB tE v am oj od w → va_P G vwCl w H1 → va_D (fun q : Nat => s.heap.size ≤ q) w → va_S (fun q : Nat => s.heap.size ≤ q) s.heap H1 locs1 → lv_has ls1 10 [(0, .ref b), (1, .ref v), (2, .ref am), (3, .ref oj), (4, .ref od), (5, .int x5)] → W p l e room_1 s m #[Value.ref b] below meth c H1 locs1 (cells + 8) (slots + 242) Q (F0 m 1803 ls1 [])) : W p l e room_1 s m #[Value.ref b] below meth c H locs (cells) (slots) Q (F0 m 590 ls []) := by
  obtain ⟨hx, hb, hr, hml, hown, hts0, hX, hbl, hlocks, hgv⟩ := C0
  have hts : ∀ w ∈ wsL_law, w.before #[Value.ref b] s = true := fun w h => hts0 w (wsL_law_in w h)
  have hown : s.vm.findClass RL = some m.cls := hown
  have hA : ∀ q : Nat, s.heap.size ≤ q → (fun q : Nat => s.heap.size ≤ q) q := fun _ h => h
  have hbA : ¬ (fun q : Nat => s.heap.size ≤ q) b := Nat.not_le.mpr hbl
  have hI9 := hI
  obtain ⟨own, ad, z, F, wi, dm, ⟨aS, af, aR, ao, ak, aP, aC⟩, np, hI0⟩ := hI9
  have hv := hI0.2.1
  obtain ⟨Mid, hH, hM⟩ := sem_avalanche (A := (fun q : Nat => s.heap.size ≤ q)) (mi := mi) l hnt G tys htI htO htJ htB hI
  refine lv_aload_n hx hb dL_law_590 rfl (lv_at hl 1 rfl) ?_
  refine va_calli (va_runV (As := []) (rest := []) ⟨hx, hb, hml, hown, hts⟩ hH (cwV 0 hts gL_law_X7_avalanche rfl rfl rfl (by decide +kernel) ⟨Nat.le_of_ble_eq_true rfl, Nat.le_of_ble_eq_true rfl⟩) ⟨pcM_b, va_recv hK hP (ci := 8) (q0 := 0) rfl hv, pcM_u hP hK hD hS hA⟩ rfl rfl hl.1 rfl (lv_room (Nat.le_of_ble_eq_true rfl)) dL_law_591 ⟨by show cells + 0 ≤ 601024; omega, by show slots + 0 ≤ 7293034; omega⟩) hS (fun q _ h => h) (fun q h => h) (fun k1 w t H locs ht hvm hMk hB hsz hk1 hS => ?_)
  rw [ht] at hB
  obtain ⟨hP, hD⟩ := hB
  obtain ⟨⟨vs12, h12⟩, hR⟩ := hM k1 w hMk
  refine lv_aload_n hx hb dL_law_594 rfl (lv_at hl 2 rfl) ?_
  refine va_calli (va_runV (As := []) (rest := [.int k1]) ⟨hx, hb, hml, hown, hts⟩ hR (cwV 0 hts gL_law_X8_avalanche rfl rfl rfl (by decide +kernel) ⟨Nat.le_of_ble_eq_true rfl, Nat.le_of_ble_eq_true rfl⟩) ⟨pcM_b, va_recv hK hP (ci := 9) (q0 := 12) rfl h12, pcM_u hP hK hD hS hA⟩ rfl rfl hl.1 rfl (lv_room (Nat.le_of_ble_eq_true rfl)) dL_law_595 ⟨by show cells + 0 ≤ 601024; omega, by show slots + 0 ≤ 7293034; omega⟩) hS (fun q _ h => h) (fun q h => h) (fun r2 w2 t H locs ht hvm hE2 hB hsz hk1 hS => ?_)
  rw [ht] at hB
  obtain ⟨hP, hD⟩ := hB
  obtain ⟨rfl, hI2⟩ := hE2
  refine lv_icmp_eq (tgt := 1803) hx hb dL_law_598 (by decide) (fun _ => ?_) (fun c1 => absurd rfl c1)
  refine W.widen (k := cells + 8) (n := slots + 242) (by omega) (by omega) ?_
  exact kk _ _ _ _ hI2 hP hD hS (lv_sub hl [0, 1, 2, 3, 4, 5] rfl)
set_option maxHeartbeats 4000000 in
set_option maxRecDepth 100000 in
theorem case_whirlAt {p : Program} {l : Launch} {e : Env} {s : State} {m : MethodId} {below : List Frame} {meth : Method} {c : Code} (hnt : l.stackTraces = false) {G : va_G} {tys : List (ClassId × FieldType)} {tE mi : Nat} {cI cO cJ cB : ClassId} (htI : tI tys cI) (htO : tO tys cO) (htJ : tys[2]? = some (cJ, .long)) (htB : tys[3]? = some (cB, .double)) {b L : Nat} {xs : Nat → Int32} (hL : L ≤ 2048) (C0 : lw_At p s m meth c b L xs) {v am oj od : Nat} (hK : va_K G vwCl tys s) (hE : env (fun q : Nat => s.heap.size ≤ q) tE mi s s.heap) {ws : va_W} {H : Heap} {locs : List Loc} {i : Nat} {x5 : Int32} {cells slots : Nat} {Q : State → Prop} {ls : Array Slot} (hi : i + 3 < L) (e5 : x5 = nI i) (hI : INV cI cO cJ cB tE v am oj od ws) (hP : va_P G vwCl ws H) (hD : va_D (fun q : Nat => s.heap.size ≤ q) ws) (hS : va_S (fun q : Nat => s.heap.size ≤ q) s.heap H locs) (hl : lv_has ls 10 [(0, .ref b), (1, .ref v), (2, .ref am), (3, .ref oj), (4, .ref od), (5, .int x5)]) (hc : cells + 8 ≤ 601024) (hs : slots + 242 ≤ 7293034) (kk : ∀ (w : va_W) (H1 : Heap) (locs1 : List Loc) (ls1 : Array Slot), INV cI cO cJ cB tE v am oj od w → va_P G vwCl w H1 → va_D (fun q : Nat => s.heap.size ≤ q) w → va_S (fun q : Nat => s.heap.size ≤ q) s.heap H1 locs1 → lv_has ls1 10 [(0, .ref b), (1, .ref v), (2, .ref am), (3, .ref oj), (4, .ref od), (5, .int x5)] → W p l e room_1 s m #[Value.ref b] below meth c H1 locs1 (cells + 8) (slots + 242) Q (F0 m 1803 ls1 [])) : W p l e room_1 s m #[Value.ref b] below meth c H locs (cells) (slots) Q (F0 m 603 ls []) := by
  obtain ⟨hx, hb, hr, hml, hown, hts0, hX, hbl, hlocks, hgv⟩ := C0
  have hts : ∀ w ∈ wsL_law, w.before #[Value.ref b] s = true := fun w h => hts0 w (wsL_law_in w h)
  have hown : s.vm.findClass RL = some m.cls := hown
  have hA : ∀ q : Nat, s.heap.size ≤ q → (fun q : Nat => s.heap.size ≤ q) q := fun _ h => h
  have hbA : ¬ (fun q : Nat => s.heap.size ≤ q) b := Nat.not_le.mpr hbl
  have g1 : vp_in (x5 + 1) L := by rw [e5, show nI i + 1 = nI (i + 1) from nI_add i 1]; exact vp_in_nI (by omega) (by omega)
  obtain ⟨a1, ea1⟩ : ∃ y, y = xs (x5 + 1).toNatClampNeg := ⟨_, rfl⟩
  obtain ⟨Mid, hH, hM⟩ := sem_whirlAt (A := (fun q : Nat => s.heap.size ≤ q)) (mi := mi) l hnt G tys htI htO htJ htB hI a1
  refine lv_aload_n hx hb dL_law_603 rfl (lv_at hl 1 rfl) ?_
  refine lv_aload_n hx hb dL_law_604 rfl (lv_at hl 0 rfl) ?_
  refine lv_iload hx hb dL_law_605 (lv_at hl 5 rfl) ?_
  refine lv_iconst (v := 1) hx hb dL_law_607 (by decide) ?_
  refine lv_iadd hx hb dL_law_608 ?_
  refine va_sld hx hb hX hbl hbA hS g1 dL_law_609 ?_
  refine re_i ea1.symm ?_
  refine lv_aload_n hx hb dL_law_610 rfl (lv_at hl 3 rfl) ?_
  refine va_calli (vx_runSW (As := [.ref v, .int a1, .ref oj]) (rest := []) ⟨hx, hb, hml, hown, hts⟩ hH (vx_cwSW 3 hts gL_law_L_whirlAt rfl rfl rfl (by decide +kernel) ⟨Nat.le_of_ble_eq_true rfl, Nat.le_of_ble_eq_true rfl⟩) ⟨pcX_b, pcX_u hP hK hD hS hA hE⟩ rfl rfl hl.1 rfl (lv_room (Nat.le_of_ble_eq_true rfl)) dL_law_611 ⟨by show cells + 1 ≤ 601024; omega, by show slots + 6 ≤ 7293034; omega⟩) hS (fun q _ h => h) (fun q h => h) (fun k1 w t H locs ht hvm hMk hB hsz hk1 hS => ?_)
  rw [ht] at hB
  obtain ⟨hP, hD⟩ := hB
  obtain ⟨⟨vs12, h12⟩, hR⟩ := hM k1 w hMk
  refine lv_istore (lv' := [(6, .int k1), (0, .ref b), (1, .ref v), (2, .ref am), (3, .ref oj), (4, .ref od), (5, .int x5)]) hx hb dL_law_614 hl (by decide) rfl (fun ls hl => ?_)
  refine lv_aload_n hx hb dL_law_616 rfl (lv_at hl 3 rfl) ?_
  refine lv_aload_n hx hb dL_law_617 rfl (lv_at hl 1 rfl) ?_
  refine lv_iload hx hb dL_law_618 (lv_at hl 6 rfl) ?_
  refine lv_iconst (v := 1) hx hb dL_law_620 (by decide) ?_
  refine lv_iadd hx hb dL_law_621 ?_
  refine va_sld hx hb hX hbl hbA hS g1 dL_law_622 ?_
  refine re_i ea1.symm ?_
  refine va_calli (va_runV (As := [.int a1]) (rest := []) ⟨hx, hb, hml, hown, hts⟩ hR (cwV 1 hts gL_law_X8_whirlAt rfl rfl rfl (by decide +kernel) ⟨Nat.le_of_ble_eq_true rfl, Nat.le_of_ble_eq_true rfl⟩) ⟨pcM_b, va_recv hK hP (ci := 9) (q0 := 12) rfl h12, pcM_u hP hK hD hS hA⟩ rfl rfl hl.1 rfl (lv_room (Nat.le_of_ble_eq_true rfl)) dL_law_623 ⟨by show cells + 1 + 0 ≤ 601024; omega, by show slots + 6 + 0 ≤ 7293034; omega⟩) hS (fun q _ h => h) (fun q h => h) (fun r2 w2 t H locs ht hvm hE2 hB hsz hk1 hS => ?_)
  rw [ht] at hB
  obtain ⟨hP, hD⟩ := hB
  obtain ⟨⟨ad, z, wi, dm, hm, hz⟩, hou, hI2⟩ := hE2
  refine lv_istore (lv' := [(7, .int r2), (6, .int k1), (0, .ref b), (1, .ref v), (2, .ref am), (3, .ref oj), (4, .ref od), (5, .int x5)]) hx hb dL_law_626 hl (by decide) rfl (fun ls hl => ?_)
  refine lv_aload_n hx hb dL_law_628 rfl (lv_at hl 4 rfl) ?_
  refine vp_callSi (va_Run.run (va_runV (As := []) (rest := []) ⟨hx, hb, hml, hown, hts⟩ (metX8_thrown l G tys w2 (F := fun _ _ => 0) hm) (cwV 0 hts gL_law_X8_thrown rfl rfl rfl (by decide +kernel) ⟨Nat.le_of_ble_eq_true rfl, Nat.le_of_ble_eq_true rfl⟩) ⟨pcR_b, va_recv hK hP (ci := 9) (q0 := 12) rfl hm, pcR_u hP hK⟩ rfl rfl hl.1 rfl (lv_room (Nat.le_of_ble_eq_true rfl)) dL_law_629 ⟨by show cells + 1 + 0 ≤ 601024; omega, by show slots + 6 + 0 ≤ 7293034; omega⟩)) (fun r3 h3 => ?_)
  refine lv_iload hx hb dL_law_632 (lv_at hl 1 rfl) ?_
  refine lv_icmp_eq (tgt := 639) hx hb dL_law_634 (by decide) (fun c1 => ?_) (fun c1 => absurd (h3.trans hz) c1)
  refine lv_iload hx hb dL_law_639 (lv_at hl 1 rfl) ?_
  refine lv_if_ne (tgt := 656) hx hb dL_law_641 (by decide) (fun c2 => ?_) (fun c2 => ?_)
  · refine lv_goto (tgt := 1803) hx hb dL_law_656 (by decide) ?_
    refine W.widen (k := cells + 8) (n := slots + 242) (by omega) (by omega) ?_
    exact kk _ _ _ _ hI2 hP hD hS (lv_sub hl [2, 3, 4, 5, 6, 7] rfl)
  · obtain ⟨f, hf, hf0⟩ := hou c2
    refine lv_aload_n hx hb dL_law_644 rfl (lv_at hl 5 rfl) ?_
    refine lv_iconst (v := 0) hx hb dL_law_645 (by decide) ?_
    refine va_lald hx hb hK hP 36 2 hf htJ in01 dL_law_646 ?_
    refine re_l (show f (0 : Int32).toNatClampNeg = r2.toInt64 from hf0) ?_
    refine lv_iload hx hb dL_law_647 (lv_at hl 0 rfl) ?_
    refine lv_i2l hx hb dL_law_649 rfl ?_
    refine W.lcmp hx hb dL_law_650 ?_
    refine re_i (lg_cmp_self _) ?_
    refine lv_if_eq (tgt := 656) hx hb dL_law_651 (by decide) (fun _ => ?_) (fun c3 => absurd rfl c3)
    refine lv_goto (tgt := 1803) hx hb dL_law_656 (by decide) ?_
    refine W.widen (k := cells + 8) (n := slots + 242) (by omega) (by omega) ?_
    exact kk _ _ _ _ hI2 hP hD hS (lv_sub hl [2, 3, 4, 5, 6, 7] rfl)
set_option maxHeartbeats 4000000 in
set_option maxRecDepth 100000 in
theorem case_energy {p : Program} {l : Launch} {e : Env} {s : State} {m : MethodId} {below : List Frame} {meth : Method} {c : Code} (hnt : l.stackTraces = false) {G : va_G} {tys : List (ClassId × FieldType)} {tE mi : Nat} {cI cO cJ cB : ClassId} (htI : tI tys cI) (htO : tO tys cO) (htJ : tys[2]? = some (cJ, .long)) (htB : tys[3]? = some (cB, .double)) {b L : Nat} {xs : Nat → Int32} (hL : L ≤ 2048) (C0 : lw_At p s m meth c b L xs) {v am oj od : Nat} (hK : va_K G vwCl tys s) (hE : env (fun q : Nat => s.heap.size ≤ q) tE mi s s.heap) {ws : va_W} {H : Heap} {locs : List Loc} {i : Nat} {x5 : Int32} {cells slots : Nat} {Q : State → Prop} {ls : Array Slot} (hi : i + 3 < L) (e5 : x5 = nI i) (hI : INV cI cO cJ cB tE v am oj od ws) (hP : va_P G vwCl ws H) (hD : va_D (fun q : Nat => s.heap.size ≤ q) ws) (hS : va_S (fun q : Nat => s.heap.size ≤ q) s.heap H locs) (hl : lv_has ls 10 [(0, .ref b), (1, .ref v), (2, .ref am), (3, .ref oj), (4, .ref od), (5, .int x5)]) (hc : cells + 8 ≤ 601024) (hs : slots + 242 ≤ 7293034) (kk : ∀ (w : va_W) (H1 : Heap) (locs1 : List Loc) (ls1 : Array Slot), INV cI cO cJ cB tE v am oj od w → va_P G vwCl w H1 → va_D (fun q : Nat => s.heap.size ≤ q) w → va_S (fun q : Nat => s.heap.size ≤ q) s.heap H1 locs1 → lv_has ls1 10 [(0, .ref b), (1, .ref v), (2, .ref am), (3, .ref oj), (4, .ref od), (5, .int x5)] → W p l e room_1 s m #[Value.ref b] below meth c H1 locs1 (cells + 8) (slots + 242) Q (F0 m 1803 ls1 [])) : W p l e room_1 s m #[Value.ref b] below meth c H locs (cells) (slots) Q (F0 m 659 ls []) := by
  obtain ⟨hx, hb, hr, hml, hown, hts0, hX, hbl, hlocks, hgv⟩ := C0
  have hts : ∀ w ∈ wsL_law, w.before #[Value.ref b] s = true := fun w h => hts0 w (wsL_law_in w h)
  have hown : s.vm.findClass RL = some m.cls := hown
  have hA : ∀ q : Nat, s.heap.size ≤ q → (fun q : Nat => s.heap.size ≤ q) q := fun _ h => h
  have hbA : ¬ (fun q : Nat => s.heap.size ≤ q) b := Nat.not_le.mpr hbl
  have g1 : vp_in (x5 + 1) L := by rw [e5, show nI i + 1 = nI (i + 1) from nI_add i 1]; exact vp_in_nI (by omega) (by omega)
  obtain ⟨a1, ea1⟩ : ∃ y, y = xs (x5 + 1).toNatClampNeg := ⟨_, rfl⟩
  obtain ⟨Mid, hH, hM⟩ := sem_energy (A := (fun q : Nat => s.heap.size ≤ q)) (mi := mi) l hnt G tys htI htO htJ htB hI a1
  refine lv_aload_n hx hb dL_law_659 rfl (lv_at hl 1 rfl) ?_
  refine lv_aload_n hx hb dL_law_660 rfl (lv_at hl 0 rfl) ?_
  refine lv_iload hx hb dL_law_661 (lv_at hl 5 rfl) ?_
  refine lv_iconst (v := 1) hx hb dL_law_663 (by decide) ?_
  refine lv_iadd hx hb dL_law_664 ?_
  refine va_sld hx hb hX hbl hbA hS g1 dL_law_665 ?_
  refine re_i ea1.symm ?_
  refine lv_aload_n hx hb dL_law_666 rfl (lv_at hl 3 rfl) ?_
  refine va_calli (vx_runSW (As := [.ref v, .int a1, .ref oj]) (rest := []) ⟨hx, hb, hml, hown, hts⟩ hH (vx_cwSW 3 hts gL_law_L_energy rfl rfl rfl (by decide +kernel) ⟨Nat.le_of_ble_eq_true rfl, Nat.le_of_ble_eq_true rfl⟩) ⟨pcX_b, pcX_u hP hK hD hS hA hE⟩ rfl rfl hl.1 rfl (lv_room (Nat.le_of_ble_eq_true rfl)) dL_law_667 ⟨by show cells + 1 ≤ 601024; omega, by show slots + 6 ≤ 7293034; omega⟩) hS (fun q _ h => h) (fun q h => h) (fun k1 w t H locs ht hvm hMk hB hsz hk1 hS => ?_)
  rw [ht] at hB
  obtain ⟨hP, hD⟩ := hB
  obtain ⟨⟨vs12, h12⟩, hR⟩ := hM k1 w hMk
  refine lv_istore (lv' := [(6, .int k1), (0, .ref b), (1, .ref v), (2, .ref am), (3, .ref oj), (4, .ref od), (5, .int x5)]) hx hb dL_law_670 hl (by decide) rfl (fun ls hl => ?_)
  refine lv_aload_n hx hb dL_law_672 rfl (lv_at hl 3 rfl) ?_
  refine lv_aload_n hx hb dL_law_673 rfl (lv_at hl 1 rfl) ?_
  refine lv_iload hx hb dL_law_674 (lv_at hl 6 rfl) ?_
  refine lv_iconst (v := 1) hx hb dL_law_676 (by decide) ?_
  refine lv_iadd hx hb dL_law_677 ?_
  refine va_sld hx hb hX hbl hbA hS g1 dL_law_678 ?_
  refine re_i ea1.symm ?_
  refine va_calli (va_runV (As := [.int a1]) (rest := []) ⟨hx, hb, hml, hown, hts⟩ hR (cwV 1 hts gL_law_X8_energy rfl rfl rfl (by decide +kernel) ⟨Nat.le_of_ble_eq_true rfl, Nat.le_of_ble_eq_true rfl⟩) ⟨pcM_b, va_recv hK hP (ci := 9) (q0 := 12) rfl h12, pcM_u hP hK hD hS hA⟩ rfl rfl hl.1 rfl (lv_room (Nat.le_of_ble_eq_true rfl)) dL_law_679 ⟨by show cells + 1 + 0 ≤ 601024; omega, by show slots + 6 + 0 ≤ 7293034; omega⟩) hS (fun q _ h => h) (fun q h => h) (fun r2 w2 t H locs ht hvm hE2 hB hsz hk1 hS => ?_)
  rw [ht] at hB
  obtain ⟨hP, hD⟩ := hB
  obtain ⟨⟨ad, z, wi, dm, hm, hz⟩, hou, hI2⟩ := hE2
  refine lv_istore (lv' := [(7, .int r2), (6, .int k1), (0, .ref b), (1, .ref v), (2, .ref am), (3, .ref oj), (4, .ref od), (5, .int x5)]) hx hb dL_law_682 hl (by decide) rfl (fun ls hl => ?_)
  refine lv_aload_n hx hb dL_law_684 rfl (lv_at hl 4 rfl) ?_
  refine vp_callSi (va_Run.run (va_runV (As := []) (rest := []) ⟨hx, hb, hml, hown, hts⟩ (metX8_thrown l G tys w2 (F := fun _ _ => 0) hm) (cwV 0 hts gL_law_X8_thrown rfl rfl rfl (by decide +kernel) ⟨Nat.le_of_ble_eq_true rfl, Nat.le_of_ble_eq_true rfl⟩) ⟨pcR_b, va_recv hK hP (ci := 9) (q0 := 12) rfl hm, pcR_u hP hK⟩ rfl rfl hl.1 rfl (lv_room (Nat.le_of_ble_eq_true rfl)) dL_law_685 ⟨by show cells + 1 + 0 ≤ 601024; omega, by show slots + 6 + 0 ≤ 7293034; omega⟩)) (fun r3 h3 => ?_)
  refine lv_iload hx hb dL_law_688 (lv_at hl 1 rfl) ?_
  refine lv_icmp_eq (tgt := 695) hx hb dL_law_690 (by decide) (fun c1 => ?_) (fun c1 => absurd (h3.trans hz) c1)
  refine lv_iload hx hb dL_law_695 (lv_at hl 1 rfl) ?_
  refine lv_if_ne (tgt := 712) hx hb dL_law_697 (by decide) (fun c2 => ?_) (fun c2 => ?_)
  · refine lv_goto (tgt := 1803) hx hb dL_law_712 (by decide) ?_
    refine W.widen (k := cells + 8) (n := slots + 242) (by omega) (by omega) ?_
    exact kk _ _ _ _ hI2 hP hD hS (lv_sub hl [2, 3, 4, 5, 6, 7] rfl)
  · obtain ⟨f, hf, hf0⟩ := hou c2
    refine lv_aload_n hx hb dL_law_700 rfl (lv_at hl 5 rfl) ?_
    refine lv_iconst (v := 0) hx hb dL_law_701 (by decide) ?_
    refine va_lald hx hb hK hP 36 2 hf htJ in01 dL_law_702 ?_
    refine re_l (show f (0 : Int32).toNatClampNeg = r2.toInt64 from hf0) ?_
    refine lv_iload hx hb dL_law_703 (lv_at hl 0 rfl) ?_
    refine lv_i2l hx hb dL_law_705 rfl ?_
    refine W.lcmp hx hb dL_law_706 ?_
    refine re_i (lg_cmp_self _) ?_
    refine lv_if_eq (tgt := 712) hx hb dL_law_707 (by decide) (fun _ => ?_) (fun c3 => absurd rfl c3)
    refine lv_goto (tgt := 1803) hx hb dL_law_712 (by decide) ?_
    refine W.widen (k := cells + 8) (n := slots + 242) (by omega) (by omega) ?_
    exact kk _ _ _ _ hI2 hP hD hS (lv_sub hl [2, 3, 4, 5, 6, 7] rfl)
set_option maxHeartbeats 4000000 in
set_option maxRecDepth 100000 in
theorem case_ring {p : Program} {l : Launch} {e : Env} {s : State} {m : MethodId} {below : List Frame} {meth : Method} {c : Code} (hnt : l.stackTraces = false) {G : va_G} {tys : List (ClassId × FieldType)} {tE mi : Nat} {cI cO cJ cB : ClassId} (htI : tI tys cI) (htO : tO tys cO) (htJ : tys[2]? = some (cJ, .long)) (htB : tys[3]? = some (cB, .double)) {b L : Nat} {xs : Nat → Int32} (hL : L ≤ 2048) (C0 : lw_At p s m meth c b L xs) {v am oj od : Nat} (hK : va_K G vwCl tys s) (hE : env (fun q : Nat => s.heap.size ≤ q) tE mi s s.heap) {ws : va_W} {H : Heap} {locs : List Loc} {i : Nat} {x5 : Int32} {cells slots : Nat} {Q : State → Prop} {ls : Array Slot} (hi : i + 3 < L) (e5 : x5 = nI i) (hI : INV cI cO cJ cB tE v am oj od ws) (hP : va_P G vwCl ws H) (hD : va_D (fun q : Nat => s.heap.size ≤ q) ws) (hS : va_S (fun q : Nat => s.heap.size ≤ q) s.heap H locs) (hl : lv_has ls 10 [(0, .ref b), (1, .ref v), (2, .ref am), (3, .ref oj), (4, .ref od), (5, .int x5)]) (hc : cells + 8 ≤ 601024) (hs : slots + 242 ≤ 7293034) (kk : ∀ (w : va_W) (H1 : Heap) (locs1 : List Loc) (ls1 : Array Slot), INV cI cO cJ cB tE v am oj od w → va_P G vwCl w H1 → va_D (fun q : Nat => s.heap.size ≤ q) w → va_S (fun q : Nat => s.heap.size ≤ q) s.heap H1 locs1 → lv_has ls1 10 [(0, .ref b), (1, .ref v), (2, .ref am), (3, .ref oj), (4, .ref od), (5, .int x5)] → W p l e room_1 s m #[Value.ref b] below meth c H1 locs1 (cells + 8) (slots + 242) Q (F0 m 1803 ls1 [])) : W p l e room_1 s m #[Value.ref b] below meth c H locs (cells) (slots) Q (F0 m 715 ls []) := by
  obtain ⟨hx, hb, hr, hml, hown, hts0, hX, hbl, hlocks, hgv⟩ := C0
  have hts : ∀ w ∈ wsL_law, w.before #[Value.ref b] s = true := fun w h => hts0 w (wsL_law_in w h)
  have hown : s.vm.findClass RL = some m.cls := hown
  have hA : ∀ q : Nat, s.heap.size ≤ q → (fun q : Nat => s.heap.size ≤ q) q := fun _ h => h
  have hbA : ¬ (fun q : Nat => s.heap.size ≤ q) b := Nat.not_le.mpr hbl
  have g1 : vp_in (x5 + 1) L := by rw [e5, show nI i + 1 = nI (i + 1) from nI_add i 1]; exact vp_in_nI (by omega) (by omega)
  obtain ⟨a1, ea1⟩ : ∃ y, y = xs (x5 + 1).toNatClampNeg := ⟨_, rfl⟩
  have g2 : vp_in (x5 + 2) L := by rw [e5, show nI i + 2 = nI (i + 2) from nI_add i 2]; exact vp_in_nI (by omega) (by omega)
  obtain ⟨a2, ea2⟩ : ∃ y, y = xs (x5 + 2).toNatClampNeg := ⟨_, rfl⟩
  obtain ⟨Mid, hH, hM⟩ := sem_ring (A := (fun q : Nat => s.heap.size ≤ q)) (mi := mi) l hnt G tys htI htO htJ htB hI a1 a2
  refine lv_aload_n hx hb dL_law_715 rfl (lv_at hl 1 rfl) ?_
  refine lv_aload_n hx hb dL_law_716 rfl (lv_at hl 0 rfl) ?_
  refine lv_iload hx hb dL_law_717 (lv_at hl 5 rfl) ?_
  refine lv_iconst (v := 1) hx hb dL_law_719 (by decide) ?_
  refine lv_iadd hx hb dL_law_720 ?_
  refine va_sld hx hb hX hbl hbA hS g1 dL_law_721 ?_
  refine re_i ea1.symm ?_
  refine lv_aload_n hx hb dL_law_722 rfl (lv_at hl 0 rfl) ?_
  refine lv_iload hx hb dL_law_723 (lv_at hl 5 rfl) ?_
  refine lv_iconst (v := 2) hx hb dL_law_725 (by decide) ?_
  refine lv_iadd hx hb dL_law_726 ?_
  refine va_sld hx hb hX hbl hbA hS g2 dL_law_727 ?_
  refine re_i ea2.symm ?_
  refine lv_aload_n hx hb dL_law_728 rfl (lv_at hl 3 rfl) ?_
  refine va_calli (vx_runSW (As := [.ref v, .int a1, .int a2, .ref oj]) (rest := []) ⟨hx, hb, hml, hown, hts⟩ hH (vx_cwSW 4 hts gL_law_L_ring rfl rfl rfl (by decide +kernel) ⟨Nat.le_of_ble_eq_true rfl, Nat.le_of_ble_eq_true rfl⟩) ⟨pcX_b, pcX_u hP hK hD hS hA hE⟩ rfl rfl hl.1 rfl (lv_room (Nat.le_of_ble_eq_true rfl)) dL_law_729 ⟨by show cells + 5 ≤ 601024; omega, by show slots + 223 ≤ 7293034; omega⟩) hS (fun q _ h => h) (fun q h => h) (fun k1 w t H locs ht hvm hMk hB hsz hk1 hS => ?_)
  rw [ht] at hB
  obtain ⟨hP, hD⟩ := hB
  obtain ⟨⟨vs12, h12⟩, hR⟩ := hM k1 w hMk
  refine lv_istore (lv' := [(6, .int k1), (0, .ref b), (1, .ref v), (2, .ref am), (3, .ref oj), (4, .ref od), (5, .int x5)]) hx hb dL_law_732 hl (by decide) rfl (fun ls hl => ?_)
  refine lv_aload_n hx hb dL_law_734 rfl (lv_at hl 3 rfl) ?_
  refine lv_aload_n hx hb dL_law_735 rfl (lv_at hl 1 rfl) ?_
  refine lv_iload hx hb dL_law_736 (lv_at hl 6 rfl) ?_
  refine lv_iconst (v := 1) hx hb dL_law_738 (by decide) ?_
  refine lv_iadd hx hb dL_law_739 ?_
  refine va_sld hx hb hX hbl hbA hS g1 dL_law_740 ?_
  refine re_i ea1.symm ?_
  refine lv_aload_n hx hb dL_law_741 rfl (lv_at hl 1 rfl) ?_
  refine lv_iload hx hb dL_law_742 (lv_at hl 6 rfl) ?_
  refine lv_iconst (v := 2) hx hb dL_law_744 (by decide) ?_
  refine lv_iadd hx hb dL_law_745 ?_
  refine va_sld hx hb hX hbl hbA hS g2 dL_law_746 ?_
  refine re_i ea2.symm ?_
  refine va_calli (va_runV (As := [.int a1, .int a2]) (rest := []) ⟨hx, hb, hml, hown, hts⟩ hR (cwV 2 hts gL_law_X8_ring rfl rfl rfl (by decide +kernel) ⟨Nat.le_of_ble_eq_true rfl, Nat.le_of_ble_eq_true rfl⟩) ⟨pcM_b, va_recv hK hP (ci := 9) (q0 := 12) rfl h12, pcM_u hP hK hD hS hA⟩ rfl rfl hl.1 rfl (lv_room (Nat.le_of_ble_eq_true rfl)) dL_law_747 ⟨by show cells + 5 + 0 ≤ 601024; omega, by show slots + 223 + 0 ≤ 7293034; omega⟩) hS (fun q _ h => h) (fun q h => h) (fun r2 w2 t H locs ht hvm hE2 hB hsz hk1 hS => ?_)
  rw [ht] at hB
  obtain ⟨hP, hD⟩ := hB
  obtain ⟨⟨ad, z, wi, dm, hm, hz⟩, hou, hI2⟩ := hE2
  refine lv_istore (lv' := [(7, .int r2), (6, .int k1), (0, .ref b), (1, .ref v), (2, .ref am), (3, .ref oj), (4, .ref od), (5, .int x5)]) hx hb dL_law_750 hl (by decide) rfl (fun ls hl => ?_)
  refine lv_aload_n hx hb dL_law_752 rfl (lv_at hl 4 rfl) ?_
  refine vp_callSi (va_Run.run (va_runV (As := []) (rest := []) ⟨hx, hb, hml, hown, hts⟩ (metX8_thrown l G tys w2 (F := fun _ _ => 0) hm) (cwV 0 hts gL_law_X8_thrown rfl rfl rfl (by decide +kernel) ⟨Nat.le_of_ble_eq_true rfl, Nat.le_of_ble_eq_true rfl⟩) ⟨pcR_b, va_recv hK hP (ci := 9) (q0 := 12) rfl hm, pcR_u hP hK⟩ rfl rfl hl.1 rfl (lv_room (Nat.le_of_ble_eq_true rfl)) dL_law_753 ⟨by show cells + 5 + 0 ≤ 601024; omega, by show slots + 223 + 0 ≤ 7293034; omega⟩)) (fun r3 h3 => ?_)
  refine lv_iload hx hb dL_law_756 (lv_at hl 1 rfl) ?_
  refine lv_icmp_eq (tgt := 763) hx hb dL_law_758 (by decide) (fun c1 => ?_) (fun c1 => absurd (h3.trans hz) c1)
  refine lv_iload hx hb dL_law_763 (lv_at hl 1 rfl) ?_
  refine lv_if_ne (tgt := 780) hx hb dL_law_765 (by decide) (fun c2 => ?_) (fun c2 => ?_)
  · refine lv_goto (tgt := 1803) hx hb dL_law_780 (by decide) ?_
    refine W.widen (k := cells + 8) (n := slots + 242) (by omega) (by omega) ?_
    exact kk _ _ _ _ hI2 hP hD hS (lv_sub hl [2, 3, 4, 5, 6, 7] rfl)
  · obtain ⟨f, hf, hf0⟩ := hou c2
    refine lv_aload_n hx hb dL_law_768 rfl (lv_at hl 5 rfl) ?_
    refine lv_iconst (v := 0) hx hb dL_law_769 (by decide) ?_
    refine va_lald hx hb hK hP 36 2 hf htJ in01 dL_law_770 ?_
    refine re_l (show f (0 : Int32).toNatClampNeg = r2.toInt64 from hf0) ?_
    refine lv_iload hx hb dL_law_771 (lv_at hl 0 rfl) ?_
    refine lv_i2l hx hb dL_law_773 rfl ?_
    refine W.lcmp hx hb dL_law_774 ?_
    refine re_i (lg_cmp_self _) ?_
    refine lv_if_eq (tgt := 780) hx hb dL_law_775 (by decide) (fun _ => ?_) (fun c3 => absurd rfl c3)
    refine lv_goto (tgt := 1803) hx hb dL_law_780 (by decide) ?_
    refine W.widen (k := cells + 8) (n := slots + 242) (by omega) (by omega) ?_
    exact kk _ _ _ _ hI2 hP hD hS (lv_sub hl [2, 3, 4, 5, 6, 7] rfl)
set_option maxHeartbeats 4000000 in
set_option maxRecDepth 100000 in
theorem case_flux {p : Program} {l : Launch} {e : Env} {s : State} {m : MethodId} {below : List Frame} {meth : Method} {c : Code} (hnt : l.stackTraces = false) {G : va_G} {tys : List (ClassId × FieldType)} {tE mi : Nat} {cI cO cJ cB : ClassId} (htI : tI tys cI) (htO : tO tys cO) (htJ : tys[2]? = some (cJ, .long)) (htB : tys[3]? = some (cB, .double)) {b L : Nat} {xs : Nat → Int32} (hL : L ≤ 2048) (C0 : lw_At p s m meth c b L xs) {v am oj od : Nat} (hK : va_K G vwCl tys s) (hE : env (fun q : Nat => s.heap.size ≤ q) tE mi s s.heap) {ws : va_W} {H : Heap} {locs : List Loc} {i : Nat} {x5 : Int32} {cells slots : Nat} {Q : State → Prop} {ls : Array Slot} (hi : i + 3 < L) (e5 : x5 = nI i) (hI : INV cI cO cJ cB tE v am oj od ws) (hP : va_P G vwCl ws H) (hD : va_D (fun q : Nat => s.heap.size ≤ q) ws) (hS : va_S (fun q : Nat => s.heap.size ≤ q) s.heap H locs) (hl : lv_has ls 10 [(0, .ref b), (1, .ref v), (2, .ref am), (3, .ref oj), (4, .ref od), (5, .int x5)]) (hc : cells + 8 ≤ 601024) (hs : slots + 242 ≤ 7293034) (kk : ∀ (w : va_W) (H1 : Heap) (locs1 : List Loc) (ls1 : Array Slot), INV cI cO cJ cB tE v am oj od w → va_P G vwCl w H1 → va_D (fun q : Nat => s.heap.size ≤ q) w → va_S (fun q : Nat => s.heap.size ≤ q) s.heap H1 locs1 → lv_has ls1 10 [(0, .ref b), (1, .ref v), (2, .ref am), (3, .ref oj), (4, .ref od), (5, .int x5)] → W p l e room_1 s m #[Value.ref b] below meth c H1 locs1 (cells + 8) (slots + 242) Q (F0 m 1803 ls1 [])) : W p l e room_1 s m #[Value.ref b] below meth c H locs (cells) (slots) Q (F0 m 783 ls []) := by
  obtain ⟨hx, hb, hr, hml, hown, hts0, hX, hbl, hlocks, hgv⟩ := C0
  have hts : ∀ w ∈ wsL_law, w.before #[Value.ref b] s = true := fun w h => hts0 w (wsL_law_in w h)
  have hown : s.vm.findClass RL = some m.cls := hown
  have hA : ∀ q : Nat, s.heap.size ≤ q → (fun q : Nat => s.heap.size ≤ q) q := fun _ h => h
  have hbA : ¬ (fun q : Nat => s.heap.size ≤ q) b := Nat.not_le.mpr hbl
  have g1 : vp_in (x5 + 1) L := by rw [e5, show nI i + 1 = nI (i + 1) from nI_add i 1]; exact vp_in_nI (by omega) (by omega)
  obtain ⟨a1, ea1⟩ : ∃ y, y = xs (x5 + 1).toNatClampNeg := ⟨_, rfl⟩
  have g2 : vp_in (x5 + 2) L := by rw [e5, show nI i + 2 = nI (i + 2) from nI_add i 2]; exact vp_in_nI (by omega) (by omega)
  obtain ⟨a2, ea2⟩ : ∃ y, y = xs (x5 + 2).toNatClampNeg := ⟨_, rfl⟩
  obtain ⟨Mid, hH, hM⟩ := sem_flux (A := (fun q : Nat => s.heap.size ≤ q)) (mi := mi) l hnt G tys htI htO htJ htB hI a1 a2
  refine lv_aload_n hx hb dL_law_783 rfl (lv_at hl 1 rfl) ?_
  refine lv_aload_n hx hb dL_law_784 rfl (lv_at hl 0 rfl) ?_
  refine lv_iload hx hb dL_law_785 (lv_at hl 5 rfl) ?_
  refine lv_iconst (v := 1) hx hb dL_law_787 (by decide) ?_
  refine lv_iadd hx hb dL_law_788 ?_
  refine va_sld hx hb hX hbl hbA hS g1 dL_law_789 ?_
  refine re_i ea1.symm ?_
  refine lv_aload_n hx hb dL_law_790 rfl (lv_at hl 0 rfl) ?_
  refine lv_iload hx hb dL_law_791 (lv_at hl 5 rfl) ?_
  refine lv_iconst (v := 2) hx hb dL_law_793 (by decide) ?_
  refine lv_iadd hx hb dL_law_794 ?_
  refine va_sld hx hb hX hbl hbA hS g2 dL_law_795 ?_
  refine re_i ea2.symm ?_
  refine lv_aload_n hx hb dL_law_796 rfl (lv_at hl 3 rfl) ?_
  refine va_calli (vx_runSW (As := [.ref v, .int a1, .int a2, .ref oj]) (rest := []) ⟨hx, hb, hml, hown, hts⟩ hH (vx_cwSW 4 hts gL_law_L_flux rfl rfl rfl (by decide +kernel) ⟨Nat.le_of_ble_eq_true rfl, Nat.le_of_ble_eq_true rfl⟩) ⟨pcX_b, pcX_u hP hK hD hS hA hE⟩ rfl rfl hl.1 rfl (lv_room (Nat.le_of_ble_eq_true rfl)) dL_law_797 ⟨by show cells + 2 ≤ 601024; omega, by show slots + 12 ≤ 7293034; omega⟩) hS (fun q _ h => h) (fun q h => h) (fun k1 w t H locs ht hvm hMk hB hsz hk1 hS => ?_)
  rw [ht] at hB
  obtain ⟨hP, hD⟩ := hB
  obtain ⟨⟨vs12, h12⟩, hR⟩ := hM k1 w hMk
  refine lv_istore (lv' := [(6, .int k1), (0, .ref b), (1, .ref v), (2, .ref am), (3, .ref oj), (4, .ref od), (5, .int x5)]) hx hb dL_law_800 hl (by decide) rfl (fun ls hl => ?_)
  refine lv_aload_n hx hb dL_law_802 rfl (lv_at hl 3 rfl) ?_
  refine lv_aload_n hx hb dL_law_803 rfl (lv_at hl 1 rfl) ?_
  refine lv_iload hx hb dL_law_804 (lv_at hl 6 rfl) ?_
  refine lv_iconst (v := 1) hx hb dL_law_806 (by decide) ?_
  refine lv_iadd hx hb dL_law_807 ?_
  refine va_sld hx hb hX hbl hbA hS g1 dL_law_808 ?_
  refine re_i ea1.symm ?_
  refine lv_aload_n hx hb dL_law_809 rfl (lv_at hl 1 rfl) ?_
  refine lv_iload hx hb dL_law_810 (lv_at hl 6 rfl) ?_
  refine lv_iconst (v := 2) hx hb dL_law_812 (by decide) ?_
  refine lv_iadd hx hb dL_law_813 ?_
  refine va_sld hx hb hX hbl hbA hS g2 dL_law_814 ?_
  refine re_i ea2.symm ?_
  refine va_calli (va_runV (As := [.int a1, .int a2]) (rest := []) ⟨hx, hb, hml, hown, hts⟩ hR (cwV 2 hts gL_law_X8_flux rfl rfl rfl (by decide +kernel) ⟨Nat.le_of_ble_eq_true rfl, Nat.le_of_ble_eq_true rfl⟩) ⟨pcM_b, va_recv hK hP (ci := 9) (q0 := 12) rfl h12, pcM_u hP hK hD hS hA⟩ rfl rfl hl.1 rfl (lv_room (Nat.le_of_ble_eq_true rfl)) dL_law_815 ⟨by show cells + 2 + 0 ≤ 601024; omega, by show slots + 12 + 0 ≤ 7293034; omega⟩) hS (fun q _ h => h) (fun q h => h) (fun r2 w2 t H locs ht hvm hE2 hB hsz hk1 hS => ?_)
  rw [ht] at hB
  obtain ⟨hP, hD⟩ := hB
  obtain ⟨⟨ad, z, wi, dm, hm, hz⟩, hou, hI2⟩ := hE2
  refine lv_istore (lv' := [(7, .int r2), (6, .int k1), (0, .ref b), (1, .ref v), (2, .ref am), (3, .ref oj), (4, .ref od), (5, .int x5)]) hx hb dL_law_818 hl (by decide) rfl (fun ls hl => ?_)
  refine lv_aload_n hx hb dL_law_820 rfl (lv_at hl 4 rfl) ?_
  refine vp_callSi (va_Run.run (va_runV (As := []) (rest := []) ⟨hx, hb, hml, hown, hts⟩ (metX8_thrown l G tys w2 (F := fun _ _ => 0) hm) (cwV 0 hts gL_law_X8_thrown rfl rfl rfl (by decide +kernel) ⟨Nat.le_of_ble_eq_true rfl, Nat.le_of_ble_eq_true rfl⟩) ⟨pcR_b, va_recv hK hP (ci := 9) (q0 := 12) rfl hm, pcR_u hP hK⟩ rfl rfl hl.1 rfl (lv_room (Nat.le_of_ble_eq_true rfl)) dL_law_821 ⟨by show cells + 2 + 0 ≤ 601024; omega, by show slots + 12 + 0 ≤ 7293034; omega⟩)) (fun r3 h3 => ?_)
  refine lv_iload hx hb dL_law_824 (lv_at hl 1 rfl) ?_
  refine lv_icmp_eq (tgt := 831) hx hb dL_law_826 (by decide) (fun c1 => ?_) (fun c1 => absurd (h3.trans hz) c1)
  refine lv_iload hx hb dL_law_831 (lv_at hl 1 rfl) ?_
  refine lv_if_ne (tgt := 848) hx hb dL_law_833 (by decide) (fun c2 => ?_) (fun c2 => ?_)
  · refine lv_goto (tgt := 1803) hx hb dL_law_848 (by decide) ?_
    refine W.widen (k := cells + 8) (n := slots + 242) (by omega) (by omega) ?_
    exact kk _ _ _ _ hI2 hP hD hS (lv_sub hl [2, 3, 4, 5, 6, 7] rfl)
  · obtain ⟨f, hf, hf0⟩ := hou c2
    refine lv_aload_n hx hb dL_law_836 rfl (lv_at hl 5 rfl) ?_
    refine lv_iconst (v := 0) hx hb dL_law_837 (by decide) ?_
    refine va_lald hx hb hK hP 36 2 hf htJ in01 dL_law_838 ?_
    refine re_l (show f (0 : Int32).toNatClampNeg = r2.toInt64 from hf0) ?_
    refine lv_iload hx hb dL_law_839 (lv_at hl 0 rfl) ?_
    refine lv_i2l hx hb dL_law_841 rfl ?_
    refine W.lcmp hx hb dL_law_842 ?_
    refine re_i (lg_cmp_self _) ?_
    refine lv_if_eq (tgt := 848) hx hb dL_law_843 (by decide) (fun _ => ?_) (fun c3 => absurd rfl c3)
    refine lv_goto (tgt := 1803) hx hb dL_law_848 (by decide) ?_
    refine W.widen (k := cells + 8) (n := slots + 242) (by omega) (by omega) ?_
    exact kk _ _ _ _ hI2 hP hD hS (lv_sub hl [2, 3, 4, 5, 6, 7] rfl)
set_option maxHeartbeats 4000000 in
set_option maxRecDepth 100000 in
theorem case_warm {p : Program} {l : Launch} {e : Env} {s : State} {m : MethodId} {below : List Frame} {meth : Method} {c : Code} (hnt : l.stackTraces = false) {G : va_G} {tys : List (ClassId × FieldType)} {tE mi : Nat} {cI cO cJ cB : ClassId} (htI : tI tys cI) (htO : tO tys cO) (htJ : tys[2]? = some (cJ, .long)) (htB : tys[3]? = some (cB, .double)) {b L : Nat} {xs : Nat → Int32} (hL : L ≤ 2048) (C0 : lw_At p s m meth c b L xs) {v am oj od : Nat} (hK : va_K G vwCl tys s) (hE : env (fun q : Nat => s.heap.size ≤ q) tE mi s s.heap) {ws : va_W} {H : Heap} {locs : List Loc} {i : Nat} {x5 : Int32} {cells slots : Nat} {Q : State → Prop} {ls : Array Slot} (hi : i + 3 < L) (e5 : x5 = nI i) (hI : INV cI cO cJ cB tE v am oj od ws) (hP : va_P G vwCl ws H) (hD : va_D (fun q : Nat => s.heap.size ≤ q) ws) (hS : va_S (fun q : Nat => s.heap.size ≤ q) s.heap H locs) (hl : lv_has ls 10 [(0, .ref b), (1, .ref v), (2, .ref am), (3, .ref oj), (4, .ref od), (5, .int x5)]) (hc : cells + 8 ≤ 601024) (hs : slots + 242 ≤ 7293034) (kk : ∀ (w : va_W) (H1 : Heap) (locs1 : List Loc) (ls1 : Array Slot), INV cI cO cJ cB tE v am oj od w → va_P G vwCl w H1 → va_D (fun q : Nat => s.heap.size ≤ q) w → va_S (fun q : Nat => s.heap.size ≤ q) s.heap H1 locs1 → lv_has ls1 10 [(0, .ref b), (1, .ref v), (2, .ref am), (3, .ref oj), (4, .ref od), (5, .int x5)] → W p l e room_1 s m #[Value.ref b] below meth c H1 locs1 (cells + 8) (slots + 242) Q (F0 m 1803 ls1 [])) : W p l e room_1 s m #[Value.ref b] below meth c H locs (cells) (slots) Q (F0 m 851 ls []) := by
  obtain ⟨hx, hb, hr, hml, hown, hts0, hX, hbl, hlocks, hgv⟩ := C0
  have hts : ∀ w ∈ wsL_law, w.before #[Value.ref b] s = true := fun w h => hts0 w (wsL_law_in w h)
  have hown : s.vm.findClass RL = some m.cls := hown
  have hA : ∀ q : Nat, s.heap.size ≤ q → (fun q : Nat => s.heap.size ≤ q) q := fun _ h => h
  have hbA : ¬ (fun q : Nat => s.heap.size ≤ q) b := Nat.not_le.mpr hbl
  have g1 : vp_in (x5 + 1) L := by rw [e5, show nI i + 1 = nI (i + 1) from nI_add i 1]; exact vp_in_nI (by omega) (by omega)
  obtain ⟨a1, ea1⟩ : ∃ y, y = xs (x5 + 1).toNatClampNeg := ⟨_, rfl⟩
  obtain ⟨Mid, hH, hM⟩ := sem_warm (A := (fun q : Nat => s.heap.size ≤ q)) (mi := mi) l hnt G tys htI htO htJ htB hI a1
  refine lv_aload_n hx hb dL_law_851 rfl (lv_at hl 1 rfl) ?_
  refine lv_aload_n hx hb dL_law_852 rfl (lv_at hl 0 rfl) ?_
  refine lv_iload hx hb dL_law_853 (lv_at hl 5 rfl) ?_
  refine lv_iconst (v := 1) hx hb dL_law_855 (by decide) ?_
  refine lv_iadd hx hb dL_law_856 ?_
  refine va_sld hx hb hX hbl hbA hS g1 dL_law_857 ?_
  refine re_i ea1.symm ?_
  refine lv_aload_n hx hb dL_law_858 rfl (lv_at hl 3 rfl) ?_
  refine va_calli (vx_runSW (As := [.ref v, .int a1, .ref oj]) (rest := []) ⟨hx, hb, hml, hown, hts⟩ hH (vx_cwSW 3 hts gL_law_L_warm rfl rfl rfl (by decide +kernel) ⟨Nat.le_of_ble_eq_true rfl, Nat.le_of_ble_eq_true rfl⟩) ⟨pcX_b, pcX_u hP hK hD hS hA hE⟩ rfl rfl hl.1 rfl (lv_room (Nat.le_of_ble_eq_true rfl)) dL_law_859 ⟨by show cells + 1 ≤ 601024; omega, by show slots + 6 ≤ 7293034; omega⟩) hS (fun q _ h => h) (fun q h => h) (fun k1 w t H locs ht hvm hMk hB hsz hk1 hS => ?_)
  rw [ht] at hB
  obtain ⟨hP, hD⟩ := hB
  obtain ⟨⟨vs12, h12⟩, hR⟩ := hM k1 w hMk
  refine lv_istore (lv' := [(6, .int k1), (0, .ref b), (1, .ref v), (2, .ref am), (3, .ref oj), (4, .ref od), (5, .int x5)]) hx hb dL_law_862 hl (by decide) rfl (fun ls hl => ?_)
  refine lv_aload_n hx hb dL_law_864 rfl (lv_at hl 3 rfl) ?_
  refine lv_aload_n hx hb dL_law_865 rfl (lv_at hl 1 rfl) ?_
  refine lv_iload hx hb dL_law_866 (lv_at hl 6 rfl) ?_
  refine lv_iconst (v := 1) hx hb dL_law_868 (by decide) ?_
  refine lv_iadd hx hb dL_law_869 ?_
  refine va_sld hx hb hX hbl hbA hS g1 dL_law_870 ?_
  refine re_i ea1.symm ?_
  refine va_calli (va_runV (As := [.int a1]) (rest := []) ⟨hx, hb, hml, hown, hts⟩ hR (cwV 1 hts gL_law_X8_warm rfl rfl rfl (by decide +kernel) ⟨Nat.le_of_ble_eq_true rfl, Nat.le_of_ble_eq_true rfl⟩) ⟨pcM_b, va_recv hK hP (ci := 9) (q0 := 12) rfl h12, pcM_u hP hK hD hS hA⟩ rfl rfl hl.1 rfl (lv_room (Nat.le_of_ble_eq_true rfl)) dL_law_871 ⟨by show cells + 1 + 0 ≤ 601024; omega, by show slots + 6 + 0 ≤ 7293034; omega⟩) hS (fun q _ h => h) (fun q h => h) (fun r2 w2 t H locs ht hvm hE2 hB hsz hk1 hS => ?_)
  rw [ht] at hB
  obtain ⟨hP, hD⟩ := hB
  obtain ⟨⟨ad, z, wi, dm, hm, hz⟩, hou, hI2⟩ := hE2
  refine lv_istore (lv' := [(7, .int r2), (6, .int k1), (0, .ref b), (1, .ref v), (2, .ref am), (3, .ref oj), (4, .ref od), (5, .int x5)]) hx hb dL_law_874 hl (by decide) rfl (fun ls hl => ?_)
  refine lv_aload_n hx hb dL_law_876 rfl (lv_at hl 4 rfl) ?_
  refine vp_callSi (va_Run.run (va_runV (As := []) (rest := []) ⟨hx, hb, hml, hown, hts⟩ (metX8_thrown l G tys w2 (F := fun _ _ => 0) hm) (cwV 0 hts gL_law_X8_thrown rfl rfl rfl (by decide +kernel) ⟨Nat.le_of_ble_eq_true rfl, Nat.le_of_ble_eq_true rfl⟩) ⟨pcR_b, va_recv hK hP (ci := 9) (q0 := 12) rfl hm, pcR_u hP hK⟩ rfl rfl hl.1 rfl (lv_room (Nat.le_of_ble_eq_true rfl)) dL_law_877 ⟨by show cells + 1 + 0 ≤ 601024; omega, by show slots + 6 + 0 ≤ 7293034; omega⟩)) (fun r3 h3 => ?_)
  refine lv_iload hx hb dL_law_880 (lv_at hl 1 rfl) ?_
  refine lv_icmp_eq (tgt := 887) hx hb dL_law_882 (by decide) (fun c1 => ?_) (fun c1 => absurd (h3.trans hz) c1)
  refine lv_iload hx hb dL_law_887 (lv_at hl 1 rfl) ?_
  refine lv_if_ne (tgt := 904) hx hb dL_law_889 (by decide) (fun c2 => ?_) (fun c2 => ?_)
  · refine lv_goto (tgt := 1803) hx hb dL_law_904 (by decide) ?_
    refine W.widen (k := cells + 8) (n := slots + 242) (by omega) (by omega) ?_
    exact kk _ _ _ _ hI2 hP hD hS (lv_sub hl [2, 3, 4, 5, 6, 7] rfl)
  · obtain ⟨f, hf, hf0⟩ := hou c2
    refine lv_aload_n hx hb dL_law_892 rfl (lv_at hl 5 rfl) ?_
    refine lv_iconst (v := 0) hx hb dL_law_893 (by decide) ?_
    refine va_lald hx hb hK hP 36 2 hf htJ in01 dL_law_894 ?_
    refine re_l (show f (0 : Int32).toNatClampNeg = r2.toInt64 from hf0) ?_
    refine lv_iload hx hb dL_law_895 (lv_at hl 0 rfl) ?_
    refine lv_i2l hx hb dL_law_897 rfl ?_
    refine W.lcmp hx hb dL_law_898 ?_
    refine re_i (lg_cmp_self _) ?_
    refine lv_if_eq (tgt := 904) hx hb dL_law_899 (by decide) (fun _ => ?_) (fun c3 => absurd rfl c3)
    refine lv_goto (tgt := 1803) hx hb dL_law_904 (by decide) ?_
    refine W.widen (k := cells + 8) (n := slots + 242) (by omega) (by omega) ?_
    exact kk _ _ _ _ hI2 hP hD hS (lv_sub hl [2, 3, 4, 5, 6, 7] rfl)
set_option maxHeartbeats 4000000 in
set_option maxRecDepth 100000 in
theorem case_ofRing {p : Program} {l : Launch} {e : Env} {s : State} {m : MethodId} {below : List Frame} {meth : Method} {c : Code} (hnt : l.stackTraces = false) {G : va_G} {tys : List (ClassId × FieldType)} {tE mi : Nat} {cI cO cJ cB : ClassId} (htI : tI tys cI) (htO : tO tys cO) (htJ : tys[2]? = some (cJ, .long)) (htB : tys[3]? = some (cB, .double)) {b L : Nat} {xs : Nat → Int32} (hL : L ≤ 2048) (C0 : lw_At p s m meth c b L xs) {v am oj od : Nat} (hK : va_K G vwCl tys s) (hE : env (fun q : Nat => s.heap.size ≤ q) tE mi s s.heap) {ws : va_W} {H : Heap} {locs : List Loc} {i : Nat} {x5 : Int32} {cells slots : Nat} {Q : State → Prop} {ls : Array Slot} (hi : i + 3 < L) (e5 : x5 = nI i) (hI : INV cI cO cJ cB tE v am oj od ws) (hP : va_P G vwCl ws H) (hD : va_D (fun q : Nat => s.heap.size ≤ q) ws) (hS : va_S (fun q : Nat => s.heap.size ≤ q) s.heap H locs) (hl : lv_has ls 10 [(0, .ref b), (1, .ref v), (2, .ref am), (3, .ref oj), (4, .ref od), (5, .int x5)]) (hc : cells + 8 ≤ 601024) (hs : slots + 242 ≤ 7293034) (kk : ∀ (w : va_W) (H1 : Heap) (locs1 : List Loc) (ls1 : Array Slot), INV cI cO cJ cB tE v am oj od w → va_P G vwCl w H1 → va_D (fun q : Nat => s.heap.size ≤ q) w → va_S (fun q : Nat => s.heap.size ≤ q) s.heap H1 locs1 → lv_has ls1 10 [(0, .ref b), (1, .ref v), (2, .ref am), (3, .ref oj), (4, .ref od), (5, .int x5)] → W p l e room_1 s m #[Value.ref b] below meth c H1 locs1 (cells + 8) (slots + 242) Q (F0 m 1803 ls1 [])) : W p l e room_1 s m #[Value.ref b] below meth c H locs (cells) (slots) Q (F0 m 907 ls []) := by
  obtain ⟨hx, hb, hr, hml, hown, hts0, hX, hbl, hlocks, hgv⟩ := C0
  have hts : ∀ w ∈ wsL_law, w.before #[Value.ref b] s = true := fun w h => hts0 w (wsL_law_in w h)
  have hown : s.vm.findClass RL = some m.cls := hown
  have hA : ∀ q : Nat, s.heap.size ≤ q → (fun q : Nat => s.heap.size ≤ q) q := fun _ h => h
  have hbA : ¬ (fun q : Nat => s.heap.size ≤ q) b := Nat.not_le.mpr hbl
  have g1 : vp_in (x5 + 1) L := by rw [e5, show nI i + 1 = nI (i + 1) from nI_add i 1]; exact vp_in_nI (by omega) (by omega)
  obtain ⟨a1, ea1⟩ : ∃ y, y = xs (x5 + 1).toNatClampNeg := ⟨_, rfl⟩
  have g2 : vp_in (x5 + 2) L := by rw [e5, show nI i + 2 = nI (i + 2) from nI_add i 2]; exact vp_in_nI (by omega) (by omega)
  obtain ⟨a2, ea2⟩ : ∃ y, y = xs (x5 + 2).toNatClampNeg := ⟨_, rfl⟩
  obtain ⟨Mid, hH, hM⟩ := sem_ofRing (A := (fun q : Nat => s.heap.size ≤ q)) (mi := mi) l hnt G tys htI htO htJ htB hI a1 a2
  refine lv_aload_n hx hb dL_law_907 rfl (lv_at hl 1 rfl) ?_
  refine lv_aload_n hx hb dL_law_908 rfl (lv_at hl 0 rfl) ?_
  refine lv_iload hx hb dL_law_909 (lv_at hl 5 rfl) ?_
  refine lv_iconst (v := 1) hx hb dL_law_911 (by decide) ?_
  refine lv_iadd hx hb dL_law_912 ?_
  refine va_sld hx hb hX hbl hbA hS g1 dL_law_913 ?_
  refine re_i ea1.symm ?_
  refine lv_aload_n hx hb dL_law_914 rfl (lv_at hl 0 rfl) ?_
  refine lv_iload hx hb dL_law_915 (lv_at hl 5 rfl) ?_
  refine lv_iconst (v := 2) hx hb dL_law_917 (by decide) ?_
  refine lv_iadd hx hb dL_law_918 ?_
  refine va_sld hx hb hX hbl hbA hS g2 dL_law_919 ?_
  refine re_i ea2.symm ?_
  refine lv_aload_n hx hb dL_law_920 rfl (lv_at hl 3 rfl) ?_
  refine va_calli (vx_runSW (As := [.ref v, .int a1, .int a2, .ref oj]) (rest := []) ⟨hx, hb, hml, hown, hts⟩ hH (vx_cwSW 4 hts gL_law_L_ofRing rfl rfl rfl (by decide +kernel) ⟨Nat.le_of_ble_eq_true rfl, Nat.le_of_ble_eq_true rfl⟩) ⟨pcX_b, pcX_u hP hK hD hS hA hE⟩ rfl rfl hl.1 rfl (lv_room (Nat.le_of_ble_eq_true rfl)) dL_law_921 ⟨by show cells + 2 ≤ 601024; omega, by show slots + 12 ≤ 7293034; omega⟩) hS (fun q _ h => h) (fun q h => h) (fun k1 w t H locs ht hvm hMk hB hsz hk1 hS => ?_)
  rw [ht] at hB
  obtain ⟨hP, hD⟩ := hB
  obtain ⟨⟨vs12, h12⟩, hR⟩ := hM k1 w hMk
  refine lv_istore (lv' := [(6, .int k1), (0, .ref b), (1, .ref v), (2, .ref am), (3, .ref oj), (4, .ref od), (5, .int x5)]) hx hb dL_law_924 hl (by decide) rfl (fun ls hl => ?_)
  refine lv_aload_n hx hb dL_law_926 rfl (lv_at hl 3 rfl) ?_
  refine lv_aload_n hx hb dL_law_927 rfl (lv_at hl 1 rfl) ?_
  refine lv_iload hx hb dL_law_928 (lv_at hl 6 rfl) ?_
  refine lv_iconst (v := 1) hx hb dL_law_930 (by decide) ?_
  refine lv_iadd hx hb dL_law_931 ?_
  refine va_sld hx hb hX hbl hbA hS g1 dL_law_932 ?_
  refine re_i ea1.symm ?_
  refine lv_aload_n hx hb dL_law_933 rfl (lv_at hl 1 rfl) ?_
  refine lv_iload hx hb dL_law_934 (lv_at hl 6 rfl) ?_
  refine lv_iconst (v := 2) hx hb dL_law_936 (by decide) ?_
  refine lv_iadd hx hb dL_law_937 ?_
  refine va_sld hx hb hX hbl hbA hS g2 dL_law_938 ?_
  refine re_i ea2.symm ?_
  refine va_calli (va_runV (As := [.int a1, .int a2]) (rest := []) ⟨hx, hb, hml, hown, hts⟩ hR (cwV 2 hts gL_law_X8_ofRing rfl rfl rfl (by decide +kernel) ⟨Nat.le_of_ble_eq_true rfl, Nat.le_of_ble_eq_true rfl⟩) ⟨pcM_b, va_recv hK hP (ci := 9) (q0 := 12) rfl h12, pcM_u hP hK hD hS hA⟩ rfl rfl hl.1 rfl (lv_room (Nat.le_of_ble_eq_true rfl)) dL_law_939 ⟨by show cells + 2 + 0 ≤ 601024; omega, by show slots + 12 + 0 ≤ 7293034; omega⟩) hS (fun q _ h => h) (fun q h => h) (fun r2 w2 t H locs ht hvm hE2 hB hsz hk1 hS => ?_)
  rw [ht] at hB
  obtain ⟨hP, hD⟩ := hB
  obtain ⟨⟨ad, z, wi, dm, hm, hz⟩, hou, hI2⟩ := hE2
  refine lv_istore (lv' := [(7, .int r2), (6, .int k1), (0, .ref b), (1, .ref v), (2, .ref am), (3, .ref oj), (4, .ref od), (5, .int x5)]) hx hb dL_law_942 hl (by decide) rfl (fun ls hl => ?_)
  refine lv_aload_n hx hb dL_law_944 rfl (lv_at hl 4 rfl) ?_
  refine vp_callSi (va_Run.run (va_runV (As := []) (rest := []) ⟨hx, hb, hml, hown, hts⟩ (metX8_thrown l G tys w2 (F := fun _ _ => 0) hm) (cwV 0 hts gL_law_X8_thrown rfl rfl rfl (by decide +kernel) ⟨Nat.le_of_ble_eq_true rfl, Nat.le_of_ble_eq_true rfl⟩) ⟨pcR_b, va_recv hK hP (ci := 9) (q0 := 12) rfl hm, pcR_u hP hK⟩ rfl rfl hl.1 rfl (lv_room (Nat.le_of_ble_eq_true rfl)) dL_law_945 ⟨by show cells + 2 + 0 ≤ 601024; omega, by show slots + 12 + 0 ≤ 7293034; omega⟩)) (fun r3 h3 => ?_)
  refine lv_iload hx hb dL_law_948 (lv_at hl 1 rfl) ?_
  refine lv_icmp_eq (tgt := 955) hx hb dL_law_950 (by decide) (fun c1 => ?_) (fun c1 => absurd (h3.trans hz) c1)
  refine lv_iload hx hb dL_law_955 (lv_at hl 1 rfl) ?_
  refine lv_if_ne (tgt := 972) hx hb dL_law_957 (by decide) (fun c2 => ?_) (fun c2 => ?_)
  · refine lv_goto (tgt := 1803) hx hb dL_law_972 (by decide) ?_
    refine W.widen (k := cells + 8) (n := slots + 242) (by omega) (by omega) ?_
    exact kk _ _ _ _ hI2 hP hD hS (lv_sub hl [2, 3, 4, 5, 6, 7] rfl)
  · obtain ⟨f, hf, hf0⟩ := hou c2
    refine lv_aload_n hx hb dL_law_960 rfl (lv_at hl 5 rfl) ?_
    refine lv_iconst (v := 0) hx hb dL_law_961 (by decide) ?_
    refine va_lald hx hb hK hP 36 2 hf htJ in01 dL_law_962 ?_
    refine re_l (show f (0 : Int32).toNatClampNeg = r2.toInt64 from hf0) ?_
    refine lv_iload hx hb dL_law_963 (lv_at hl 0 rfl) ?_
    refine lv_i2l hx hb dL_law_965 rfl ?_
    refine W.lcmp hx hb dL_law_966 ?_
    refine re_i (lg_cmp_self _) ?_
    refine lv_if_eq (tgt := 972) hx hb dL_law_967 (by decide) (fun _ => ?_) (fun c3 => absurd rfl c3)
    refine lv_goto (tgt := 1803) hx hb dL_law_972 (by decide) ?_
    refine W.widen (k := cells + 8) (n := slots + 242) (by omega) (by omega) ?_
    exact kk _ _ _ _ hI2 hP hD hS (lv_sub hl [2, 3, 4, 5, 6, 7] rfl)
