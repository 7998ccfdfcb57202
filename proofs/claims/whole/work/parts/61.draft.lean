set_option maxHeartbeats 4000000 in
set_option maxRecDepth 100000 in
theorem case_avalanche {p : Program} {l : Launch} {e : Env} {s : State} {m : MethodId} {below : List Frame} {meth : Method} {c : Code} (hnt : l.stackTraces = false) {G : va_G} {tys : List (ClassId × FieldType)} {tE mi : Nat} {cI cO cJ cB : ClassId} (htI : tI tys cI) (htO : tO tys cO) (htJ : tys[2]? = some (cJ, .long)) (htB : tys[3]? = some (cB, .double)) {b L : Nat} {xs : Nat → Int32} (hL : L ≤ 2048) (C0 : lw_At p s m meth c b L xs) {v am oj od : Nat} (hK : va_K G vwCl tys s) (hE : env (fun q : Nat => s.heap.size ≤ q) tE mi s s.heap) {ws : va_W} {H : Heap} {locs : List Loc} {i : Nat} {x5 : Int32} {cells slots : Nat} {Q : State → Prop} {ls : Array Slot} (hi : i + 3 < L) (e5 : x5 = nI i) (hI : INV cI cO cJ cB tE v am oj od ws) (hP : va_P G vwCl ws H) (hD : va_D (fun q : Nat => s.heap.size ≤ q) ws) (hS : va_S (fun q : Nat => s.heap.size ≤ q) s.heap H locs) (hl : lv_has ls 10 [(0, .ref b), (1, .ref v), (2, .ref am), (3, .ref oj), (4, .ref od), (5, .int x5)]) (hc : cells + 8 ≤ 601024) (hs : slots + 242 ≤ 7293034) (kk : ∀ (w : va_W) (H1 : Heap) (locs1 : List Loc) (ls1 : Array Slot), INV cI cO cJ cB tE v am oj od w → va_P G vwCl w H1 → va_D (fun q : Nat => s.heap.size ≤ q) w → va_S (fun q : Nat => s.heap.size ≤ q) s.heap H1 locs1 → lv_has ls1 10 [(0, .ref b), (1, .ref v), (2, .ref am), (3, .ref oj), (4, .ref od), (5, .int x5)] → W p l e room_1 s m #[Value.ref b] below meth c H1 locs1 (cells + 8) (slots + 242) Q (F0 m 1803 ls1 [])) : W p l e room_1 s m #[Value.ref b] below meth c H locs (cells) (slots) Q (F0 m 590 ls []) := by
  obtain ⟨hx, hb, hr, hml, hown, hts0, hX, hbl, hlocks, hgv⟩ := C0
  have hts : ∀ w ∈ wsL_law, w.before #[Value.ref b] s = true := fun w h => hts0 w (wsL_law_in w h)
  have hown : s.vm.findClass RL = some m.cls := hown
  have hA : ∀ q : Nat, s.heap.size ≤ q → (fun q : Nat => s.heap.size ≤ q) q := fun _ h => h
  have hbA : ¬ (fun q : Nat => s.heap.size ≤ q) b := Nat.not_le.mpr hbl
  have hI9 := hI
  obtain ⟨own, ad, z, F, wi, dm, ⟨aS, af, aR, ao, ak, aP, aC⟩, np, hI0⟩ := hI9
  have hv := hI0.2.1
  obtain ⟨Mid, hH, hM⟩ := sem_avalanche (A := (fun q : Nat => s.heap.size ≤ q)) (mi := mi) l hnt G tys htI htO htJ htB hI
  refine lv_aload_n hx hb dL_law_590 rfl (lv_at hl 1 rfl) ?_
  refine va_calli (va_runV (As := []) (rest := []) ⟨hx, hb, hml, hown, hts⟩ hH (cwV 0 hts gL_law_X7_avalanche rfl rfl rfl (by decide +kernel) ⟨Nat.le_of_ble_eq_true rfl, Nat.le_of_ble_eq_true rfl⟩) ⟨pcM_b, va_recv hK hP (ci := 8) (q0 := 0) rfl hv, pcM_u hP hK hD hS hA⟩ rfl rfl hl.1 rfl (lv_room (Nat.le_of_ble_eq_true rfl)) dL_law_591 ⟨by show cells + 0 ≤ 601024; omega, by show slots + 0 ≤ 7293034; omega⟩) hS (fun q _ h => h) (fun q h => h) (fun k1 w t H locs ht hvm hMk hB hsz hk1 hS => ?_)
  rw [ht] at hB
  obtain ⟨hP, hD⟩ := hB
  obtain ⟨⟨vs12, h12⟩, hR⟩ := hM k1 w hMk
  refine lv_aload_n hx hb dL_law_594 rfl (lv_at hl 2 rfl) ?_
  refine va_calli (va_runV (As := []) (rest := [.int k1]) ⟨hx, hb, hml, hown, hts⟩ hR (cwV 0 hts gL_law_X8_avalanche rfl rfl rfl (by decide +kernel) ⟨Nat.le_of_ble_eq_true rfl, Nat.le_of_ble_eq_true rfl⟩) ⟨pcM_b, va_recv hK hP (ci := 9) (q0 := 12) rfl h12, pcM_u hP hK hD hS hA⟩ rfl rfl hl.1 rfl (lv_room (Nat.le_of_ble_eq_true rfl)) dL_law_595 ⟨by show cells + 0 ≤ 601024; omega, by show slots + 0 ≤ 7293034; omega⟩) hS (fun q _ h => h) (fun q h => h) (fun r2 w2 t H locs ht hvm hE2 hB hsz hk1 hS => ?_)
  rw [ht] at hB
  obtain ⟨hP, hD⟩ := hB
  obtain ⟨rfl, hI2⟩ := hE2
  refine lv_icmp_eq (tgt := 1803) hx hb dL_law_598 (by decide) (fun _ => ?_) (fun c1 => absurd rfl c1)
  refine W.widen (k := cells + 8) (n := slots + 242) (by omega) (by omega) ?_
  exact kk _ _ _ _ hI2 hP hD hS (lv_sub hl [0, 1, 2, 3, 4, 5] rfl)
set_option maxHeartbeats 4000000 in
set_option maxRecDepth 100000 in
theorem case_whirlAt {p : Program} {l : Launch} {e : Env} {s : State} {m : MethodId} {below : List Frame} {meth : Method} {c : Code} (hnt : l.stackTraces = false) {G : va_G} {tys : List (ClassId × FieldType)} {tE mi : Nat} {cI cO cJ cB : ClassId} (htI : tI tys cI) (htO : tO tys cO) (htJ : tys[2]? = some (cJ, .long)) (htB : tys[3]? = some (cB, .double)) {b L : Nat} {xs : Nat → Int32} (hL : L ≤ 2048) (C0 : lw_At p s m meth c b L xs) {v am oj od : Nat} (hK : va_K G vwCl tys s) (hE : env (fun q : Nat => s.heap.size ≤ q) tE mi s s.heap) {ws : va_W} {H : Heap} {locs : List Loc} {i : Nat} {x5 : Int32} {cells slots : Nat} {Q : State → Prop} {ls : Array Slot} (hi : i + 3 < L) (e5 : x5 = nI i) (hI : INV cI cO cJ cB tE v am oj od ws) (hP : va_P G vwCl ws H) (hD : va_D (fun q : Nat => s.heap.size ≤ q) ws) (hS : va_S (fun q : Nat => s.heap.size ≤ q) s.heap H locs) (hl : lv_has ls 10 [(0, .ref b), (1, .ref v), (2, .ref am), (3, .ref oj), (4, .ref od), (5, .int x5)]) (hc : cells + 8 ≤ 601024) (hs : slots + 242 ≤ 7293034) (kk : ∀ (w : va_W) (H1 : Heap) (locs1 : List Loc) (ls1 : Array Slot), INV cI cO cJ cB tE v am oj od w → va_P G vwCl w H1 → va_D (fun q : Nat => s.heap.size ≤ q) w → va_S (fun q : Nat => s.heap.size ≤ q) s.heap H1 locs1 → lv_has ls1 10 [(0, .ref b), (1, .ref v), (2, .ref am), (3, .ref oj), (4, .ref od), (5, .int x5)] → W p l e room_1 s m #[Value.ref b] below meth c H1 locs1 (cells + 8) (slots + 242) Q (F0 m 1803 ls1 [])) : W p l e room_1 s m #[Value.ref b] below meth c H locs (cells) (slots) Q (F0 m 603 ls []) := by
  obtain ⟨hx, hb, hr, hml, hown, hts0, hX, hbl, hlocks, hgv⟩ := C0
  have hts : ∀ w ∈ wsL_law, w.before #[Value.ref b] s = true := fun w h => hts0 w (wsL_law_in w h)
  have hown : s.vm.findClass RL = some m.cls := hown
  have hA : ∀ q : Nat, s.heap.size ≤ q → (fun q : Nat => s.heap.size ≤ q) q := fun _ h => h
  have hbA : ¬ (fun q : Nat => s.heap.size ≤ q) b := Nat.not_le.mpr hbl
  have g1 : vp_in (x5 + 1) L := by rw [e5, show nI i + 1 = nI (i + 1) from nI_add i 1]; exact vp_in_nI (by omega) (by omega)
  obtain ⟨a1, ea1⟩ : ∃ y, y = xs (x5 + 1).toNatClampNeg := ⟨_, rfl⟩
  obtain ⟨Mid, hH, hM⟩ := sem_whirlAt (A := (fun q : Nat => s.heap.size ≤ q)) (mi := mi) l hnt G tys htI htO htJ htB hI a1
  refine lv_aload_n hx hb dL_law_603 rfl (lv_at hl 1 rfl) ?_
  refine lv_aload_n hx hb dL_law_604 rfl (lv_at hl 0 rfl) ?_
  refine lv_iload hx hb dL_law_605 (lv_at hl 5 rfl) ?_
  refine lv_iconst (v := 1) hx hb dL_law_607 (by decide) ?_
  refine lv_iadd hx hb dL_law_608 ?_
  refine va_sld hx hb hX hbl hbA hS g1 dL_law_609 ?_
  refine re_i ea1.symm ?_
  refine lv_aload_n hx hb dL_law_610 rfl (lv_at hl 3 rfl) ?_
  refine va_calli (vx_runSW (As := [.ref v, .int a1, .ref oj]) (rest := []) ⟨hx, hb, hml, hown, hts⟩ hH (vx_cwSW 3 hts gL_law_L_whirlAt rfl rfl rfl (by decide +kernel) ⟨Nat.le_of_ble_eq_true rfl, Nat.le_of_ble_eq_true rfl⟩) ⟨pcX_b, pcX_u hP hK hD hS hA hE⟩ rfl rfl hl.1 rfl (lv_room (Nat.le_of_ble_eq_true rfl)) dL_law_611 ⟨by show cells + 1 ≤ 601024; omega, by show slots + 6 ≤ 7293034; omega⟩) hS (fun q _ h => h) (fun q h => h) (fun k1 w t H locs ht hvm hMk hB hsz hk1 hS => ?_)
  rw [ht] at hB
  obtain ⟨hP, hD⟩ := hB
  obtain ⟨⟨vs12, h12⟩, hR⟩ := hM k1 w hMk
  refine lv_istore (lv' := [(6, .int k1), (0, .ref b), (1, .ref v), (2, .ref am), (3, .ref oj), (4, .ref od), (5, .int x5)]) hx hb dL_law_614 hl (by decide) rfl (fun ls hl => ?_)
  refine lv_aload_n hx hb dL_law_616 rfl (lv_at hl 3 rfl) ?_
  refine lv_aload_n hx hb dL_law_617 rfl (lv_at hl 1 rfl) ?_
  refine lv_iload hx hb dL_law_618 (lv_at hl 6 rfl) ?_
  refine lv_iconst (v := 1) hx hb dL_law_620 (by decide) ?_
  refine lv_iadd hx hb dL_law_621 ?_
  refine va_sld hx hb hX hbl hbA hS g1 dL_law_622 ?_
  refine re_i ea1.symm ?_
  refine va_calli (va_runV (As := [.int a1]) (rest := []) ⟨hx, hb, hml, hown, hts⟩ hR (cwV 1 hts gL_law_X8_whirlAt rfl rfl rfl (by decide +kernel) ⟨Nat.le_of_ble_eq_true rfl, Nat.le_of_ble_eq_true rfl⟩) ⟨pcM_b, va_recv hK hP (ci := 9) (q0 := 12) rfl h12, pcM_u hP hK hD hS hA⟩ rfl rfl hl.1 rfl (lv_room (Nat.le_of_ble_eq_true rfl)) dL_law_623 ⟨by show cells + 1 + 0 ≤ 601024; omega, by show slots + 6 + 0 ≤ 7293034; omega⟩) hS (fun q _ h => h) (fun q h => h) (fun r2 w2 t H locs ht hvm hE2 hB hsz hk1 hS => ?_)
  rw [ht] at hB
  obtain ⟨hP, hD⟩ := hB
  obtain ⟨⟨ad, z, wi, dm, hm, hz⟩, hou, hI2⟩ := hE2
  refine lv_istore (lv' := [(7, .int r2), (6, .int k1), (0, .ref b), (1, .ref v), (2, .ref am), (3, .ref oj), (4, .ref od), (5, .int x5)]) hx hb dL_law_626 hl (by decide) rfl (fun ls hl => ?_)
  refine lv_aload_n hx hb dL_law_628 rfl (lv_at hl 4 rfl) ?_
  refine vp_callSi (va_Run.run (va_runV (As := []) (rest := []) ⟨hx, hb, hml, hown, hts⟩ (metX8_thrown l G tys w2 (F := fun _ _ => 0) hm) (cwV 0 hts gL_law_X8_thrown rfl rfl rfl (by decide +kernel) ⟨Nat.le_of_ble_eq_true rfl, Nat.le_of_ble_eq_true rfl⟩) ⟨pcR_b, va_recv hK hP (ci := 9) (q0 := 12) rfl hm, pcR_u hP hK⟩ rfl rfl hl.1 rfl (lv_room (Nat.le_of_ble_eq_true rfl)) dL_law_629 ⟨by show cells + 1 + 0 ≤ 601024; omega, by show slots + 6 + 0 ≤ 7293034; omega⟩)) (fun r3 h3 => ?_)
  refine lv_iload hx hb dL_law_632 (lv_at hl 1 rfl) ?_
  refine lv_icmp_eq (tgt := 639) hx hb dL_law_634 (by decide) (fun c1 => ?_) (fun c1 => absurd (h3.trans hz) c1)
  refine lv_iload hx hb dL_law_639 (lv_at hl 1 rfl) ?_
  refine lv_if_ne (tgt := 656) hx hb dL_law_641 (by decide) (fun c2 => ?_) (fun c2 => ?_)
  · refine lv_goto (tgt := 1803) hx hb dL_law_656 (by decide) ?_
    refine W.widen (k := cells + 8) (n := slots + 242) (by omega) (by omega) ?_
    exact kk _ _ _ _ hI2 hP hD hS (lv_sub hl [2, 3, 4, 5, 6, 7] rfl)
  · obtain ⟨f, hf, hf0⟩ := hou c2
    refine lv_aload_n hx hb dL_law_644 rfl (lv_at hl 5 rfl) ?_
    refine lv_iconst (v := 0) hx hb dL_law_645 (by decide) ?_
    refine va_lald hx hb hK hP 36 2 hf htJ in01 dL_law_646 ?_
    refine re_l (show f (0 : Int32).toNatClampNeg = r2.toInt64 from hf0) ?_
    refine lv_iload hx hb dL_law_647 (lv_at hl 0 rfl) ?_
    refine lv_i2l hx hb dL_law_649 rfl ?_
    refine W.lcmp hx hb dL_law_650 ?_
    refine re_i (lg_cmp_self _) ?_
    refine lv_if_eq (tgt := 656) hx hb dL_law_651 (by decide) (fun _ => ?_) (fun c3 => absurd rfl c3)
    refine lv_goto (tgt := 1803) hx hb dL_law_656 (by decide) ?_
    refine W.widen (k := cells + 8) (n := slots + 242) (by omega) (by omega) ?_
    exact kk _ _ _ _ hI2 hP hD hS (lv_sub hl [2, 3, 4, 5, 6, 7] rfl)
set_option maxHeartbeats 4000000 in
set_option maxRecDepth 100000 in
theorem case_energy {p : Program} {l : Launch} {e : Env} {s : State} {m : MethodId} {below : List Frame} {meth : Method} {c : Code} (hnt : l.stackTraces = false) {G : va_G} {tys : List (ClassId × FieldType)} {tE mi : Nat} {cI cO cJ cB : ClassId} (htI : tI tys cI) (htO : tO tys cO) (htJ : tys[2]? = some (cJ, .long)) (htB : tys[3]? = some (cB, .double)) {b L : Nat} {xs : Nat → Int32} (hL : L ≤ 2048) (C0 : lw_At p s m meth c b L xs) {v am oj od : Nat} (hK : va_K G vwCl tys s) (hE : env (fun q : Nat => s.heap.size ≤ q) tE mi s s.heap) {ws : va_W} {H : Heap} {locs : List Loc} {i : Nat} {x5 : Int32} {cells slots : Nat} {Q : State → Prop} {ls : Array Slot} (hi : i + 3 < L) (e5 : x5 = nI i) (hI : INV cI cO cJ cB tE v am oj od ws) (hP : va_P G vwCl ws H) (hD : va_D (fun q : Nat => s.heap.size ≤ q) ws) (hS : va_S (fun q : Nat => s.heap.size ≤ q) s.heap H locs) (hl : lv_has ls 10 [(0, .ref b), (1, .ref v), (2, .ref am), (3, .ref oj), (4, .ref od), (5, .int x5)]) (hc : cells + 8 ≤ 601024) (hs : slots + 242 ≤ 7293034) (kk : ∀ (w : va_W) (H1 : Heap) (locs1 : List Loc) (ls1 : Array Slot), INV cI cO cJ cB tE v am oj od w → va_P G vwCl w H1 → va_D (fun q : Nat => s.heap.size ≤ q) w → va_S (fun q : Nat => s.heap.size ≤ q) s.heap H1 locs1 → lv_has ls1 10 [(0, .ref b), (1, .ref v), (2, .ref am), (3, .ref oj), (4, .ref od), (5, .int x5)] → W p l e room_1 s m #[Value.ref b] below meth c H1 locs1 (cells + 8) (slots + 242) Q (F0 m 1803 ls1 [])) : W p l e room_1 s m #[Value.ref b] below meth c H locs (cells) (slots) Q (F0 m 659 ls []) := by
  obtain ⟨hx, hb, hr, hml, hown, hts0, hX, hbl, hlocks, hgv⟩ := C0
  have hts : ∀ w ∈ wsL_law, w.before #[Value.ref b] s = true := fun w h => hts0 w (wsL_law_in w h)
  have hown : s.vm.findClass RL = some m.cls := hown
  have hA : ∀ q : Nat, s.heap.size ≤ q → (fun q : Nat => s.heap.size ≤ q) q := fun _ h => h
  have hbA : ¬ (fun q : Nat => s.heap.size ≤ q) b := Nat.not_le.mpr hbl
  have g1 : vp_in (x5 + 1) L := by rw [e5, show nI i + 1 = nI (i + 1) from nI_add i 1]; exact vp_in_nI (by omega) (by omega)
  obtain ⟨a1, ea1⟩ : ∃ y, y = xs (x5 + 1).toNatClampNeg := ⟨_, rfl⟩
  obtain ⟨Mid, hH, hM⟩ := sem_energy (A := (fun q : Nat => s.heap.size ≤ q)) (mi := mi) l hnt G tys htI htO htJ htB hI a1
  refine lv_aload_n hx hb dL_law_659 rfl (lv_at hl 1 rfl) ?_
  refine lv_aload_n hx hb dL_law_660 rfl (lv_at hl 0 rfl) ?_
  refine lv_iload hx hb dL_law_661 (lv_at hl 5 rfl) ?_
  refine lv_iconst (v := 1) hx hb dL_law_663 (by decide) ?_
  refine lv_iadd hx hb dL_law_664 ?_
  refine va_sld hx hb hX hbl hbA hS g1 dL_law_665 ?_
  refine re_i ea1.symm ?_
  refine lv_aload_n hx hb dL_law_666 rfl (lv_at hl 3 rfl) ?_
  refine va_calli (vx_runSW (As := [.ref v, .int a1, .ref oj]) (rest := []) ⟨hx, hb, hml, hown, hts⟩ hH (vx_cwSW 3 hts gL_law_L_energy rfl rfl rfl (by decide +kernel) ⟨Nat.le_of_ble_eq_true rfl, Nat.le_of_ble_eq_true rfl⟩) ⟨pcX_b, pcX_u hP hK hD hS hA hE⟩ rfl rfl hl.1 rfl (lv_room (Nat.le_of_ble_eq_true rfl)) dL_law_667 ⟨by show cells + 1 ≤ 601024; omega, by show slots + 6 ≤ 7293034; omega⟩) hS (fun q _ h => h) (fun q h => h) (fun k1 w t H locs ht hvm hMk hB hsz hk1 hS => ?_)
  rw [ht] at hB
  obtain ⟨hP, hD⟩ := hB
  obtain ⟨⟨vs12, h12⟩, hR⟩ := hM k1 w hMk
  refine lv_istore (lv' := [(6, .int k1), (0, .ref b), (1, .ref v), (2, .ref am), (3, .ref oj), (4, .ref od), (5, .int x5)]) hx hb dL_law_670 hl (by decide) rfl (fun ls hl => ?_)
  refine lv_aload_n hx hb dL_law_672 rfl (lv_at hl 3 rfl) ?_
  refine lv_aload_n hx hb dL_law_673 rfl (lv_at hl 1 rfl) ?_
  refine lv_iload hx hb dL_law_674 (lv_at hl 6 rfl) ?_
  refine lv_iconst (v := 1) hx hb dL_law_676 (by decide) ?_
  refine lv_iadd hx hb dL_law_677 ?_
  refine va_sld hx hb hX hbl hbA hS g1 dL_law_678 ?_
  refine re_i ea1.symm ?_
  refine va_calli (va_runV (As := [.int a1]) (rest := []) ⟨hx, hb, hml, hown, hts⟩ hR (cwV 1 hts gL_law_X8_energy rfl rfl rfl (by decide +kernel) ⟨Nat.le_of_ble_eq_true rfl, Nat.le_of_ble_eq_true rfl⟩) ⟨pcM_b, va_recv hK hP (ci := 9) (q0 := 12) rfl h12, pcM_u hP hK hD hS hA⟩ rfl rfl hl.1 rfl (lv_room (Nat.le_of_ble_eq_true rfl)) dL_law_679 ⟨by show cells + 1 + 0 ≤ 601024; omega, by show slots + 6 + 0 ≤ 7293034; omega⟩) hS (fun q _ h => h) (fun q h => h) (fun r2 w2 t H locs ht hvm hE2 hB hsz hk1 hS => ?_)
  rw [ht] at hB
  obtain ⟨hP, hD⟩ := hB
  obtain ⟨⟨ad, z, wi, dm, hm, hz⟩, hou, hI2⟩ := hE2
  refine lv_istore (lv' := [(7, .int r2), (6, .int k1), (0, .ref b), (1, .ref v), (2, .ref am), (3, .ref oj), (4, .ref od), (5, .int x5)]) hx hb dL_law_682 hl (by decide) rfl (fun ls hl => ?_)
  refine lv_aload_n hx hb dL_law_684 rfl (lv_at hl 4 rfl) ?_
  refine vp_callSi (va_Run.run (va_runV (As := []) (rest := []) ⟨hx, hb, hml, hown, hts⟩ (metX8_thrown l G tys w2 (F := fun _ _ => 0) hm) (cwV 0 hts gL_law_X8_thrown rfl rfl rfl (by decide +kernel) ⟨Nat.le_of_ble_eq_true rfl, Nat.le_of_ble_eq_true rfl⟩) ⟨pcR_b, va_recv hK hP (ci := 9) (q0 := 12) rfl hm, pcR_u hP hK⟩ rfl rfl hl.1 rfl (lv_room (Nat.le_of_ble_eq_true rfl)) dL_law_685 ⟨by show cells + 1 + 0 ≤ 601024; omega, by show slots + 6 + 0 ≤ 7293034; omega⟩)) (fun r3 h3 => ?_)
  refine lv_iload hx hb dL_law_688 (lv_at hl 1 rfl) ?_
  refine lv_icmp_eq (tgt := 695) hx hb dL_law_690 (by decide) (fun c1 => ?_) (fun c1 => absurd (h3.trans hz) c1)
  refine lv_iload hx hb dL_law_695 (lv_at hl 1 rfl) ?_
  refine lv_if_ne (tgt := 712) hx hb dL_law_697 (by decide) (fun c2 => ?_) (fun c2 => ?_)
  · refine lv_goto (tgt := 1803) hx hb dL_law_712 (by decide) ?_
    refine W.widen (k := cells + 8) (n := slots + 242) (by omega) (by omega) ?_
    exact kk _ _ _ _ hI2 hP hD hS (lv_sub hl [2, 3, 4, 5, 6, 7] rfl)
  · obtain ⟨f, hf, hf0⟩ := hou c2
    refine lv_aload_n hx hb dL_law_700 rfl (lv_at hl 5 rfl) ?_
    refine lv_iconst (v := 0) hx hb dL_law_701 (by decide) ?_
    refine va_lald hx hb hK hP 36 2 hf htJ in01 dL_law_702 ?_
    refine re_l (show f (0 : Int32).toNatClampNeg = r2.toInt64 from hf0) ?_
    refine lv_iload hx hb dL_law_703 (lv_at hl 0 rfl) ?_
    refine lv_i2l hx hb dL_law_705 rfl ?_
    refine W.lcmp hx hb dL_law_706 ?_
    refine re_i (lg_cmp_self _) ?_
    refine lv_if_eq (tgt := 712) hx hb dL_law_707 (by decide) (fun _ => ?_) (fun c3 => absurd rfl c3)
    refine lv_goto (tgt := 1803) hx hb dL_law_712 (by decide) ?_
    refine W.widen (k := cells + 8) (n := slots + 242) (by omega) (by omega) ?_
    exact kk _ _ _ _ hI2 hP hD hS (lv_sub hl [2, 3, 4, 5, 6, 7] rfl)
set_option maxHeartbeats 4000000 in
set_option maxRecDepth 100000 in
theorem case_ring {p : Program} {l : Launch} {e : Env} {s : State} {m : MethodId} {below : List Frame} {meth : Method} {c : Code} (hnt : l.stackTraces = false) {G : va_G} {tys : List (ClassId × FieldType)} {tE mi : Nat} {cI cO cJ cB : ClassId} (htI : tI tys cI) (htO : tO tys cO) (htJ : tys[2]? = some (cJ, .long)) (htB : tys[3]? = some (cB, .double)) {b L : Nat} {xs : Nat → Int32} (hL : L ≤ 2048) (C0 : lw_At p s m meth c b L xs) {v am oj od : Nat} (hK : va_K G vwCl tys s) (hE : env (fun q : Nat => s.heap.size ≤ q) tE mi s s.heap) {ws : va_W} {H : Heap} {locs : List Loc} {i : Nat} {x5 : Int32} {cells slots : Nat} {Q : State → Prop} {ls : Array Slot} (hi : i + 3 < L) (e5 : x5 = nI i) (hI : INV cI cO cJ cB tE v am oj od ws) (hP : va_P G vwCl ws H) (hD : va_D (fun q : Nat => s.heap.size ≤ q) ws) (hS : va_S (fun q : Nat => s.heap.size ≤ q) s.heap H locs) (hl : lv_has ls 10 [(0, .ref b), (1, .ref v), (2, .ref am), (3, .ref oj), (4, .ref od), (5, .int x5)]) (hc : cells + 8 ≤ 601024) (hs : slots + 242 ≤ 7293034) (kk : ∀ (w : va_W) (H1 : Heap) (locs1 : List Loc) (ls1 : Array Slot), INV cI cO cJ cB tE v am oj od w → va_P G vwCl w H1 → va_D (fun q : Nat => s.heap.size ≤ q) w → va_S (fun q : Nat => s.heap.size ≤ q) s.heap H1 locs1 → lv_has ls1 10 [(0, .ref b), (1, .ref v), (2, .ref am), (3, .ref oj), (4, .ref od), (5, .int x5)] → W p l e room_1 s m #[Value.ref b] below meth c H1 locs1 (cells + 8) (slots + 242) Q (F0 m 1803 ls1 [])) : W p l e room_1 s m #[Value.ref b] below meth c H locs (cells) (slots) Q (F0 m 715 ls []) := by
  obtain ⟨hx, hb, hr, hml, hown, hts0, hX, hbl, hlocks, hgv⟩ := C0
  have hts : ∀ w ∈ wsL_law, w.before #[Value.ref b] s = true := fun w h => hts0 w (wsL_law_in w h)
  have hown : s.vm.findClass RL = some m.cls := hown
  have hA : ∀ q : Nat, s.heap.size ≤ q → (fun q : Nat => s.heap.size ≤ q) q := fun _ h => h
  have hbA : ¬ (fun q : Nat => s.heap.size ≤ q) b := Nat.not_le.mpr hbl
  have g1 : vp_in (x5 + 1) L := by rw [e5, show nI i + 1 = nI (i + 1) from nI_add i 1]; exact vp_in_nI (by omega) (by omega)
  obtain ⟨a1, ea1⟩ : ∃ y, y = xs (x5 + 1).toNatClampNeg := ⟨_, rfl⟩
  have g2 : vp_in (x5 + 2) L := by rw [e5, show nI i + 2 = nI (i + 2) from nI_add i 2]; exact vp_in_nI (by omega) (by omega)
  obtain ⟨a2, ea2⟩ : ∃ y, y = xs (x5 + 2).toNatClampNeg := ⟨_, rfl⟩
  obtain ⟨Mid, hH, hM⟩ := sem_ring (A := (fun q : Nat => s.heap.size ≤ q)) (mi := mi) l hnt G tys htI htO htJ htB hI a1 a2
  refine lv_aload_n hx hb dL_law_715 rfl (lv_at hl 1 rfl) ?_
  refine lv_aload_n hx hb dL_law_716 rfl (lv_at hl 0 rfl) ?_
  refine lv_iload hx hb dL_law_717 (lv_at hl 5 rfl) ?_
  refine lv_iconst (v := 1) hx hb dL_law_719 (by decide) ?_
  refine lv_iadd hx hb dL_law_720 ?_
  refine va_sld hx hb hX hbl hbA hS g1 dL_law_721 ?_
  refine re_i ea1.symm ?_
  refine lv_aload_n hx hb dL_law_722 rfl (lv_at hl 0 rfl) ?_
  refine lv_iload hx hb dL_law_723 (lv_at hl 5 rfl) ?_
  refine lv_iconst (v := 2) hx hb dL_law_725 (by decide) ?_
  refine lv_iadd hx hb dL_law_726 ?_
  refine va_sld hx hb hX hbl hbA hS g2 dL_law_727 ?_
  refine re_i ea2.symm ?_
  refine lv_aload_n hx hb dL_law_728 rfl (lv_at hl 3 rfl) ?_
  refine va_calli (vx_runSW (As := [.ref v, .int a1, .int a2, .ref oj]) (rest := []) ⟨hx, hb, hml, hown, hts⟩ hH (vx_cwSW 4 hts gL_law_L_ring rfl rfl rfl (by decide +kernel) ⟨Nat.le_of_ble_eq_true rfl, Nat.le_of_ble_eq_true rfl⟩) ⟨pcX_b, pcX_u hP hK hD hS hA hE⟩ rfl rfl hl.1 rfl (lv_room (Nat.le_of_ble_eq_true rfl)) dL_law_729 ⟨by show cells + 5 ≤ 601024; omega, by show slots + 223 ≤ 7293034; omega⟩) hS (fun q _ h => h) (fun q h => h) (fun k1 w t H locs ht hvm hMk hB hsz hk1 hS => ?_)
  rw [ht] at hB
  obtain ⟨hP, hD⟩ := hB
  obtain ⟨⟨vs12, h12⟩, hR⟩ := hM k1 w hMk
  refine lv_istore (lv' := [(6, .int k1), (0, .ref b), (1, .ref v), (2, .ref am), (3, .ref oj), (4, .ref od), (5, .int x5)]) hx hb dL_law_732 hl (by decide) rfl (fun ls hl => ?_)
  refine lv_aload_n hx hb dL_law_734 rfl (lv_at hl 3 rfl) ?_
  refine lv_aload_n hx hb dL_law_735 rfl (lv_at hl 1 rfl) ?_
  refine lv_iload hx hb dL_law_736 (lv_at hl 6 rfl) ?_
  refine lv_iconst (v := 1) hx hb dL_law_738 (by decide) ?_
  refine lv_iadd hx hb dL_law_739 ?_
  refine va_sld hx hb hX hbl hbA hS g1 dL_law_740 ?_
  refine re_i ea1.symm ?_
  refine lv_aload_n hx hb dL_law_741 rfl (lv_at hl 1 rfl) ?_
  refine lv_iload hx hb dL_law_742 (lv_at hl 6 rfl) ?_
  refine lv_iconst (v := 2) hx hb dL_law_744 (by decide) ?_
  refine lv_iadd hx hb dL_law_745 ?_
  refine va_sld hx hb hX hbl hbA hS g2 dL_law_746 ?_
  refine re_i ea2.symm ?_
  refine va_calli (va_runV (As := [.int a1, .int a2]) (rest := []) ⟨hx, hb, hml, hown, hts⟩ hR (cwV 2 hts gL_law_X8_ring rfl rfl rfl (by decide +kernel) ⟨Nat.le_of_ble_eq_true rfl, Nat.le_of_ble_eq_true rfl⟩) ⟨pcM_b, va_recv hK hP (ci := 9) (q0 := 12) rfl h12, pcM_u hP hK hD hS hA⟩ rfl rfl hl.1 rfl (lv_room (Nat.le_of_ble_eq_true rfl)) dL_law_747 ⟨by show cells + 5 + 0 ≤ 601024; omega, by show slots + 223 + 0 ≤ 7293034; omega⟩) hS (fun q _ h => h) (fun q h => h) (fun r2 w2 t H locs ht hvm hE2 hB hsz hk1 hS => ?_)
  rw [ht] at hB
  obtain ⟨hP, hD⟩ := hB
  obtain ⟨⟨ad, z, wi, dm, hm, hz⟩, hou, hI2⟩ := hE2
  refine lv_istore (lv' := [(7, .int r2), (6, .int k1), (0, .ref b), (1, .ref v), (2, .ref am), (3, .ref oj), (4, .ref od), (5, .int x5)]) hx hb dL_law_750 hl (by decide) rfl (fun ls hl => ?_)
  refine lv_aload_n hx hb dL_law_752 rfl (lv_at hl 4 rfl) ?_
  refine vp_callSi (va_Run.run (va_runV (As := []) (rest := []) ⟨hx, hb, hml, hown, hts⟩ (metX8_thrown l G tys w2 (F := fun _ _ => 0) hm) (cwV 0 hts gL_law_X8_thrown rfl rfl rfl (by decide +kernel) ⟨Nat.le_of_ble_eq_true rfl, Nat.le_of_ble_eq_true rfl⟩) ⟨pcR_b, va_recv hK hP (ci := 9) (q0 := 12) rfl hm, pcR_u hP hK⟩ rfl rfl hl.1 rfl (lv_room (Nat.le_of_ble_eq_true rfl)) dL_law_753 ⟨by show cells + 5 + 0 ≤ 601024; omega, by show slots + 223 + 0 ≤ 7293034; omega⟩)) (fun r3 h3 => ?_)
  refine lv_iload hx hb dL_law_756 (lv_at hl 1 rfl) ?_
  refine lv_icmp_eq (tgt := 763) hx hb dL_law_758 (by decide) (fun c1 => ?_) (fun c1 => absurd (h3.trans hz) c1)
  refine lv_iload hx hb dL_law_763 (lv_at hl 1 rfl) ?_
  refine lv_if_ne (tgt := 780) hx hb dL_law_765 (by decide) (fun c2 => ?_) (fun c2 => ?_)
  · refine lv_goto (tgt := 1803) hx hb dL_law_780 (by decide) ?_
    refine W.widen (k := cells + 8) (n := slots + 242) (by omega) (by omega) ?_
    exact kk _ _ _ _ hI2 hP hD hS (lv_sub hl [2, 3, 4, 5, 6, 7] rfl)
  · obtain ⟨f, hf, hf0⟩ := hou c2
    refine lv_aload_n hx hb dL_law_768 rfl (lv_at hl 5 rfl) ?_
    refine lv_iconst (v := 0) hx hb dL_law_769 (by decide) ?_
    refine va_lald hx hb hK hP 36 2 hf htJ in01 dL_law_770 ?_
    refine re_l (show f (0 : Int32).toNatClampNeg = r2.toInt64 from hf0) ?_
    refine lv_iload hx hb dL_law_771 (lv_at hl 0 rfl) ?_
    refine lv_i2l hx hb dL_law_773 rfl ?_
    refine W.lcmp hx hb dL_law_774 ?_
    refine re_i (lg_cmp_self _) ?_
    refine lv_if_eq (tgt := 780) hx hb dL_law_775 (by decide) (fun _ => ?_) (fun c3 => absurd rfl c3)
    refine lv_goto (tgt := 1803) hx hb dL_law_780 (by decide) ?_
    refine W.widen (k := cells + 8) (n := slots + 242) (by omega) (by omega) ?_
    exact kk _ _ _ _ hI2 hP hD hS (lv_sub hl [2, 3, 4, 5, 6, 7] rfl)
set_option maxHeartbeats 4000000 in
set_option maxRecDepth 100000 in
theorem case_flux {p : Program} {l : Launch} {e : Env} {s : State} {m : MethodId} {below : List Frame} {meth : Method} {c : Code} (hnt : l.stackTraces = false) {G : va_G} {tys : List (ClassId × FieldType)} {tE mi : Nat} {cI cO cJ cB : ClassId} (htI : tI tys cI) (htO : tO tys cO) (htJ : tys[2]? = some (cJ, .long)) (htB : tys[3]? = some (cB, .double)) {b L : Nat} {xs : Nat → Int32} (hL : L ≤ 2048) (C0 : lw_At p s m meth c b L xs) {v am oj od : Nat} (hK : va_K G vwCl tys s) (hE : env (fun q : Nat => s.heap.size ≤ q) tE mi s s.heap) {ws : va_W} {H : Heap} {locs : List Loc} {i : Nat} {x5 : Int32} {cells slots : Nat} {Q : State → Prop} {ls : Array Slot} (hi : i + 3 < L) (e5 : x5 = nI i) (hI : INV cI cO cJ cB tE v am oj od ws) (hP : va_P G vwCl ws H) (hD : va_D (fun q : Nat => s.heap.size ≤ q) ws) (hS : va_S (fun q : Nat => s.heap.size ≤ q) s.heap H locs) (hl : lv_has ls 10 [(0, .ref b), (1, .ref v), (2, .ref am), (3, .ref oj), (4, .ref od), (5, .int x5)]) (hc : cells + 8 ≤ 601024) (hs : slots + 242 ≤ 7293034) (kk : ∀ (w : va_W) (H1 : Heap) (locs1 : List Loc) (ls1 : Array Slot), INV cI cO cJ cB tE v am oj od w → va_P G vwCl w H1 → va_D (fun q : Nat => s.heap.size ≤ q) w → va_S (fun q : Nat => s.heap.size ≤ q) s.heap H1 locs1 → lv_has ls1 10 [(0, .ref b), (1, .ref v), (2, .ref am), (3, .ref oj), (4, .ref od), (5, .int x5)] → W p l e room_1 s m #[Value.ref b] below meth c H1 locs1 (cells + 8) (slots + 242) Q (F0 m 1803 ls1 [])) : W p l e room_1 s m #[Value.ref b] below meth c H locs (cells) (slots) Q (F0 m 783 ls []) := by
  obtain ⟨hx, hb, hr, hml, hown, hts0, hX, hbl, hlocks, hgv⟩ := C0
  have hts : ∀ w ∈ wsL_law, w.before #[Value.ref b] s = true := fun w h => hts0 w (wsL_law_in w h)
  have hown : s.vm.findClass RL = some m.cls := hown
  have hA : ∀ q : Nat, s.heap.size ≤ q → (fun q : Nat => s.heap.size ≤ q) q := fun _ h => h
  have hbA : ¬ (fun q : Nat => s.heap.size ≤ q) b := Nat.not_le.mpr hbl
  have g1 : vp_in (x5 + 1) L := by rw [e5, show nI i + 1 = nI (i + 1) from nI_add i 1]; exact vp_in_nI (by omega) (by omega)
  obtain ⟨a1, ea1⟩ : ∃ y, y = xs (x5 + 1).toNatClampNeg := ⟨_, rfl⟩
  have g2 : vp_in (x5 + 2) L := by rw [e5, show nI i + 2 = nI (i + 2) from nI_add i 2]; exact vp_in_nI (by omega) (by omega)
  obtain ⟨a2, ea2⟩ : ∃ y, y = xs (x5 + 2).toNatClampNeg := ⟨_, rfl⟩
  obtain ⟨Mid, hH, hM⟩ := sem_flux (A := (fun q : Nat => s.heap.size ≤ q)) (mi := mi) l hnt G tys htI htO htJ htB hI a1 a2
  refine lv_aload_n hx hb dL_law_783 rfl (lv_at hl 1 rfl) ?_
  refine lv_aload_n hx hb dL_law_784 rfl (lv_at hl 0 rfl) ?_
  refine lv_iload hx hb dL_law_785 (lv_at hl 5 rfl) ?_
  refine lv_iconst (v := 1) hx hb dL_law_787 (by decide) ?_
  refine lv_iadd hx hb dL_law_788 ?_
  refine va_sld hx hb hX hbl hbA hS g1 dL_law_789 ?_
  refine re_i ea1.symm ?_
  refine lv_aload_n hx hb dL_law_790 rfl (lv_at hl 0 rfl) ?_
  refine lv_iload hx hb dL_law_791 (lv_at hl 5 rfl) ?_
  refine lv_iconst (v := 2) hx hb dL_law_793 (by decide) ?_
  refine lv_iadd hx hb dL_law_794 ?_
  refine va_sld hx hb hX hbl hbA hS g2 dL_law_795 ?_
  refine re_i ea2.symm ?_
  refine lv_aload_n hx hb dL_law_796 rfl (lv_at hl 3 rfl) ?_
  refine va_calli (vx_runSW (As := [.ref v, .int a1, .int a2, .ref oj]) (rest := []) ⟨hx, hb, hml, hown, hts⟩ hH (vx_cwSW 4 hts gL_law_L_flux rfl rfl rfl (by decide +kernel) ⟨Nat.le_of_ble_eq_true rfl, Nat.le_of_ble_eq_true rfl⟩) ⟨pcX_b, pcX_u hP hK hD hS hA hE⟩ rfl rfl hl.1 rfl (lv_room (Nat.le_of_ble_eq_true rfl)) dL_law_797 ⟨by show cells + 2 ≤ 601024; omega, by show slots + 12 ≤ 7293034; omega⟩) hS (fun q _ h => h) (fun q h => h) (fun k1 w t H locs ht hvm hMk hB hsz hk1 hS => ?_)
  rw [ht] at hB
  obtain ⟨hP, hD⟩ := hB
  obtain ⟨⟨vs12, h12⟩, hR⟩ := hM k1 w hMk
  refine lv_istore (lv' := [(6, .int k1), (0, .ref b), (1, .ref v), (2, .ref am), (3, .ref oj), (4, .ref od), (5, .int x5)]) hx hb dL_law_800 hl (by decide) rfl (fun ls hl => ?_)
  refine lv_aload_n hx hb dL_law_802 rfl (lv_at hl 3 rfl) ?_
  refine lv_aload_n hx hb dL_law_803 rfl (lv_at hl 1 rfl) ?_
  refine lv_iload hx hb dL_law_804 (lv_at hl 6 rfl) ?_
  refine lv_iconst (v := 1) hx hb dL_law_806 (by decide) ?_
  refine lv_iadd hx hb dL_law_807 ?_
  refine va_sld hx hb hX hbl hbA hS g1 dL_law_808 ?_
  refine re_i ea1.symm ?_
  refine lv_aload_n hx hb dL_law_809 rfl (lv_at hl 1 rfl) ?_
  refine lv_iload hx hb dL_law_810 (lv_at hl 6 rfl) ?_
  refine lv_iconst (v := 2) hx hb dL_law_812 (by decide) ?_
  refine lv_iadd hx hb dL_law_813 ?_
  refine va_sld hx hb hX hbl hbA hS g2 dL_law_814 ?_
  refine re_i ea2.symm ?_
  refine va_calli (va_runV (As := [.int a1, .int a2]) (rest := []) ⟨hx, hb, hml, hown, hts⟩ hR (cwV 2 hts gL_law_X8_flux rfl rfl rfl (by decide +kernel) ⟨Nat.le_of_ble_eq_true rfl, Nat.le_of_ble_eq_true rfl⟩) ⟨pcM_b, va_recv hK hP (ci := 9) (q0 := 12) rfl h12, pcM_u hP hK hD hS hA⟩ rfl rfl hl.1 rfl (lv_room (Nat.le_of_ble_eq_true rfl)) dL_law_815 ⟨by show cells + 2 + 0 ≤ 601024; omega, by show slots + 12 + 0 ≤ 7293034; omega⟩) hS (fun q _ h => h) (fun q h => h) (fun r2 w2 t H locs ht hvm hE2 hB hsz hk1 hS => ?_)
  rw [ht] at hB
  obtain ⟨hP, hD⟩ := hB
  obtain ⟨⟨ad, z, wi, dm, hm, hz⟩, hou, hI2⟩ := hE2
  refine lv_istore (lv' := [(7, .int r2), (6, .int k1), (0, .ref b), (1, .ref v), (2, .ref am), (3, .ref oj), (4, .ref od), (5, .int x5)]) hx hb dL_law_818 hl (by decide) rfl (fun ls hl => ?_)
  refine lv_aload_n hx hb dL_law_820 rfl (lv_at hl 4 rfl) ?_
  refine vp_callSi (va_Run.run (va_runV (As := []) (rest := []) ⟨hx, hb, hml, hown, hts⟩ (metX8_thrown l G tys w2 (F := fun _ _ => 0) hm) (cwV 0 hts gL_law_X8_thrown rfl rfl rfl (by decide +kernel) ⟨Nat.le_of_ble_eq_true rfl, Nat.le_of_ble_eq_true rfl⟩) ⟨pcR_b, va_recv hK hP (ci := 9) (q0 := 12) rfl hm, pcR_u hP hK⟩ rfl rfl hl.1 rfl (lv_room (Nat.le_of_ble_eq_true rfl)) dL_law_821 ⟨by show cells + 2 + 0 ≤ 601024; omega, by show slots + 12 + 0 ≤ 7293034; omega⟩)) (fun r3 h3 => ?_)
  refine lv_iload hx hb dL_law_824 (lv_at hl 1 rfl) ?_
  refine lv_icmp_eq (tgt := 831) hx hb dL_law_826 (by decide) (fun c1 => ?_) (fun c1 => absurd (h3.trans hz) c1)
  refine lv_iload hx hb dL_law_831 (lv_at hl 1 rfl) ?_
  refine lv_if_ne (tgt := 848) hx hb dL_law_833 (by decide) (fun c2 => ?_) (fun c2 => ?_)
  · refine lv_goto (tgt := 1803) hx hb dL_law_848 (by decide) ?_
    refine W.widen (k := cells + 8) (n := slots + 242) (by omega) (by omega) ?_
    exact kk _ _ _ _ hI2 hP hD hS (lv_sub hl [2, 3, 4, 5, 6, 7] rfl)
  · obtain ⟨f, hf, hf0⟩ := hou c2
    refine lv_aload_n hx hb dL_law_836 rfl (lv_at hl 5 rfl) ?_
    refine lv_iconst (v := 0) hx hb dL_law_837 (by decide) ?_
    refine va_lald hx hb hK hP 36 2 hf htJ in01 dL_law_838 ?_
    refine re_l (show f (0 : Int32).toNatClampNeg = r2.toInt64 from hf0) ?_
    refine lv_iload hx hb dL_law_839 (lv_at hl 0 rfl) ?_
    refine lv_i2l hx hb dL_law_841 rfl ?_
    refine W.lcmp hx hb dL_law_842 ?_
    refine re_i (lg_cmp_self _) ?_
    refine lv_if_eq (tgt := 848) hx hb dL_law_843 (by decide) (fun _ => ?_) (fun c3 => absurd rfl c3)
    refine lv_goto (tgt := 1803) hx hb dL_law_848 (by decide) ?_
    refine W.widen (k := cells + 8) (n := slots + 242) (by omega) (by omega) ?_
    exact kk _ _ _ _ hI2 hP hD hS (lv_sub hl [2, 3, 4, 5, 6, 7] rfl)
set_option maxHeartbeats 4000000 in
set_option maxRecDepth 100000 in
theorem case_warm {p : Program} {l : Launch} {e : Env} {s : State} {m : MethodId} {below : List Frame} {meth : Method} {c : Code} (hnt : l.stackTraces = false) {G : va_G} {tys : List (ClassId × FieldType)} {tE mi : Nat} {cI cO cJ cB : ClassId} (htI : tI tys cI) (htO : tO tys cO) (htJ : tys[2]? = some (cJ, .long)) (htB : tys[3]? = some (cB, .double)) {b L : Nat} {xs : Nat → Int32} (hL : L ≤ 2048) (C0 : lw_At p s m meth c b L xs) {v am oj od : Nat} (hK : va_K G vwCl tys s) (hE : env (fun q : Nat => s.heap.size ≤ q) tE mi s s.heap) {ws : va_W} {H : Heap} {locs : List Loc} {i : Nat} {x5 : Int32} {cells slots : Nat} {Q : State → Prop} {ls : Array Slot} (hi : i + 3 < L) (e5 : x5 = nI i) (hI : INV cI cO cJ cB tE v am oj od ws) (hP : va_P G vwCl ws H) (hD : va_D (fun q : Nat => s.heap.size ≤ q) ws) (hS : va_S (fun q : Nat => s.heap.size ≤ q) s.heap H locs) (hl : lv_has ls 10 [(0, .ref b), (1, .ref v), (2, .ref am), (3, .ref oj), (4, .ref od), (5, .int x5)]) (hc : cells + 8 ≤ 601024) (hs : slots + 242 ≤ 7293034) (kk : ∀ (w : va_W) (H1 : Heap) (locs1 : List Loc) (ls1 : Array Slot), INV cI cO cJ cB tE v am oj od w → va_P G vwCl w H1 → va_D (fun q : Nat => s.heap.size ≤ q) w → va_S (fun q : Nat => s.heap.size ≤ q) s.heap H1 locs1 → lv_has ls1 10 [(0, .ref b), (1, .ref v), (2, .ref am), (3, .ref oj), (4, .ref od), (5, .int x5)] → W p l e room_1 s m #[Value.ref b] below meth c H1 locs1 (cells + 8) (slots + 242) Q (F0 m 1803 ls1 [])) : W p l e room_1 s m #[Value.ref b] below meth c H locs (cells) (slots) Q (F0 m 851 ls []) := by
  obtain ⟨hx, hb, hr, hml, hown, hts0, hX, hbl, hlocks, hgv⟩ := C0
  have hts : ∀ w ∈ wsL_law, w.before #[Value.ref b] s = true := fun w h => hts0 w (wsL_law_in w h)
  have hown : s.vm.findClass RL = some m.cls := hown
  have hA : ∀ q : Nat, s.heap.size ≤ q → (fun q : Nat => s.heap.size ≤ q) q := fun _ h => h
  have hbA : ¬ (fun q : Nat => s.heap.size ≤ q) b := Nat.not_le.mpr hbl
  have g1 : vp_in (x5 + 1) L := by rw [e5, show nI i + 1 = nI (i + 1) from nI_add i 1]; exact vp_in_nI (by omega) (by omega)
  obtain ⟨a1, ea1⟩ : ∃ y, y = xs (x5 + 1).toNatClampNeg := ⟨_, rfl⟩
  obtain ⟨Mid, hH, hM⟩ := sem_warm (A := (fun q : Nat => s.heap.size ≤ q)) (mi := mi) l hnt G tys htI htO htJ htB hI a1
  refine lv_aload_n hx hb dL_law_851 rfl (lv_at hl 1 rfl) ?_
  refine lv_aload_n hx hb dL_law_852 rfl (lv_at hl 0 rfl) ?_
  refine lv_iload hx hb dL_law_853 (lv_at hl 5 rfl) ?_
  refine lv_iconst (v := 1) hx hb dL_law_855 (by decide) ?_
  refine lv_iadd hx hb dL_law_856 ?_
  refine va_sld hx hb hX hbl hbA hS g1 dL_law_857 ?_
  refine re_i ea1.symm ?_
  refine lv_aload_n hx hb dL_law_858 rfl (lv_at hl 3 rfl) ?_
  refine va_calli (vx_runSW (As := [.ref v, .int a1, .ref oj]) (rest := []) ⟨hx, hb, hml, hown, hts⟩ hH (vx_cwSW 3 hts gL_law_L_warm rfl rfl rfl (by decide +kernel) ⟨Nat.le_of_ble_eq_true rfl, Nat.le_of_ble_eq_true rfl⟩) ⟨pcX_b, pcX_u hP hK hD hS hA hE⟩ rfl rfl hl.1 rfl (lv_room (Nat.le_of_ble_eq_true rfl)) dL_law_859 ⟨by show cells + 1 ≤ 601024; omega, by show slots + 6 ≤ 7293034; omega⟩) hS (fun q _ h => h) (fun q h => h) (fun k1 w t H locs ht hvm hMk hB hsz hk1 hS => ?_)
  rw [ht] at hB
  obtain ⟨hP, hD⟩ := hB
  obtain ⟨⟨vs12, h12⟩, hR⟩ := hM k1 w hMk
  refine lv_istore (lv' := [(6, .int k1), (0, .ref b), (1, .ref v), (2, .ref am), (3, .ref oj), (4, .ref od), (5, .int x5)]) hx hb dL_law_862 hl (by decide) rfl (fun ls hl => ?_)
  refine lv_aload_n hx hb dL_law_864 rfl (lv_at hl 3 rfl) ?_
  refine lv_aload_n hx hb dL_law_865 rfl (lv_at hl 1 rfl) ?_
  refine lv_iload hx hb dL_law_866 (lv_at hl 6 rfl) ?_
  refine lv_iconst (v := 1) hx hb dL_law_868 (by decide) ?_
  refine lv_iadd hx hb dL_law_869 ?_
  refine va_sld hx hb hX hbl hbA hS g1 dL_law_870 ?_
  refine re_i ea1.symm ?_
  refine va_calli (va_runV (As := [.int a1]) (rest := []) ⟨hx, hb, hml, hown, hts⟩ hR (cwV 1 hts gL_law_X8_warm rfl rfl rfl (by decide +kernel) ⟨Nat.le_of_ble_eq_true rfl, Nat.le_of_ble_eq_true rfl⟩) ⟨pcM_b, va_recv hK hP (ci := 9) (q0 := 12) rfl h12, pcM_u hP hK hD hS hA⟩ rfl rfl hl.1 rfl (lv_room (Nat.le_of_ble_eq_true rfl)) dL_law_871 ⟨by show cells + 1 + 0 ≤ 601024; omega, by show slots + 6 + 0 ≤ 7293034; omega⟩) hS (fun q _ h => h) (fun q h => h) (fun r2 w2 t H locs ht hvm hE2 hB hsz hk1 hS => ?_)
  rw [ht] at hB
  obtain ⟨hP, hD⟩ := hB
  obtain ⟨⟨ad, z, wi, dm, hm, hz⟩, hou, hI2⟩ := hE2
  refine lv_istore (lv' := [(7, .int r2), (6, .int k1), (0, .ref b), (1, .ref v), (2, .ref am), (3, .ref oj), (4, .ref od), (5, .int x5)]) hx hb dL_law_874 hl (by decide) rfl (fun ls hl => ?_)
  refine lv_aload_n hx hb dL_law_876 rfl (lv_at hl 4 rfl) ?_
  refine vp_callSi (va_Run.run (va_runV (As := []) (rest := []) ⟨hx, hb, hml, hown, hts⟩ (metX8_thrown l G tys w2 (F := fun _ _ => 0) hm) (cwV 0 hts gL_law_X8_thrown rfl rfl rfl (by decide +kernel) ⟨Nat.le_of_ble_eq_true rfl, Nat.le_of_ble_eq_true rfl⟩) ⟨pcR_b, va_recv hK hP (ci := 9) (q0 := 12) rfl hm, pcR_u hP hK⟩ rfl rfl hl.1 rfl (lv_room (Nat.le_of_ble_eq_true rfl)) dL_law_877 ⟨by show cells + 1 + 0 ≤ 601024; omega, by show slots + 6 + 0 ≤ 7293034; omega⟩)) (fun r3 h3 => ?_)
  refine lv_iload hx hb dL_law_880 (lv_at hl 1 rfl) ?_
  refine lv_icmp_eq (tgt := 887) hx hb dL_law_882 (by decide) (fun c1 => ?_) (fun c1 => absurd (h3.trans hz) c1)
  refine lv_iload hx hb dL_law_887 (lv_at hl 1 rfl) ?_
  refine lv_if_ne (tgt := 904) hx hb dL_law_889 (by decide) (fun c2 => ?_) (fun c2 => ?_)
  · refine lv_goto (tgt := 1803) hx hb dL_law_904 (by decide) ?_
    refine W.widen (k := cells + 8) (n := slots + 242) (by omega) (by omega) ?_
    exact kk _ _ _ _ hI2 hP hD hS (lv_sub hl [2, 3, 4, 5, 6, 7] rfl)
  · obtain ⟨f, hf, hf0⟩ := hou c2
    refine lv_aload_n hx hb dL_law_892 rfl (lv_at hl 5 rfl) ?_
    refine lv_iconst (v := 0) hx hb dL_law_893 (by decide) ?_
    refine va_lald hx hb hK hP 36 2 hf htJ in01 dL_law_894 ?_
    refine re_l (show f (0 : Int32).toNatClampNeg = r2.toInt64 from hf0) ?_
    refine lv_iload hx hb dL_law_895 (lv_at hl 0 rfl) ?_
    refine lv_i2l hx hb dL_law_897 rfl ?_
    refine W.lcmp hx hb dL_law_898 ?_
    refine re_i (lg_cmp_self _) ?_
    refine lv_if_eq (tgt := 904) hx hb dL_law_899 (by decide) (fun _ => ?_) (fun c3 => absurd rfl c3)
    refine lv_goto (tgt := 1803) hx hb dL_law_904 (by decide) ?_
    refine W.widen (k := cells + 8) (n := slots + 242) (by omega) (by omega) ?_
    exact kk _ _ _ _ hI2 hP hD hS (lv_sub hl [2, 3, 4, 5, 6, 7] rfl)
set_option maxHeartbeats 4000000 in
set_option maxRecDepth 100000 in
theorem case_ofRing {p : Program} {l : Launch} {e : Env} {s : State} {m : MethodId} {below : List Frame} {meth : Method} {c : Code} (hnt : l.stackTraces = false) {G : va_G} {tys : List (ClassId × FieldType)} {tE mi : Nat} {cI cO cJ cB : ClassId} (htI : tI tys cI) (htO : tO tys cO) (htJ : tys[2]? = some (cJ, .long)) (htB : tys[3]? = some (cB, .double)) {b L : Nat} {xs : Nat → Int32} (hL : L ≤ 2048) (C0 : lw_At p s m meth c b L xs) {v am oj od : Nat} (hK : va_K G vwCl tys s) (hE : env (fun q : Nat => s.heap.size ≤ q) tE mi s s.heap) {ws : va_W} {H : Heap} {locs : List Loc} {i : Nat} {x5 : Int32} {cells slots : Nat} {Q : State → Prop} {ls : Array Slot} (hi : i + 3 < L) (e5 : x5 = nI i) (hI : INV cI cO cJ cB tE v am oj od ws) (hP : va_P G vwCl ws H) (hD : va_D (fun q : Nat => s.heap.size ≤ q) ws) (hS : va_S (fun q : Nat => s.heap.size ≤ q) s.heap H locs) (hl : lv_has ls 10 [(0, .ref b), (1, .ref v), (2, .ref am), (3, .ref oj), (4, .ref od), (5, .int x5)]) (hc : cells + 8 ≤ 601024) (hs : slots + 242 ≤ 7293034) (kk : ∀ (w : va_W) (H1 : Heap) (locs1 : List Loc) (ls1 : Array Slot), INV cI cO cJ cB tE v am oj od w → va_P G vwCl w H1 → va_D (fun q : Nat => s.heap.size ≤ q) w → va_S (fun q : Nat => s.heap.size ≤ q) s.heap H1 locs1 → lv_has ls1 10 [(0, .ref b), (1, .ref v), (2, .ref am), (3, .ref oj), (4, .ref od), (5, .int x5)] → W p l e room_1 s m #[Value.ref b] below meth c H1 locs1 (cells + 8) (slots + 242) Q (F0 m 1803 ls1 [])) : W p l e room_1 s m #[Value.ref b] below meth c H locs (cells) (slots) Q (F0 m 907 ls []) := by
  obtain ⟨hx, hb, hr, hml, hown, hts0, hX, hbl, hlocks, hgv⟩ := C0
  have hts : ∀ w ∈ wsL_law, w.before #[Value.ref b] s = true := fun w h => hts0 w (wsL_law_in w h)
  have hown : s.vm.findClass RL = some m.cls := hown
  have hA : ∀ q : Nat, s.heap.size ≤ q → (fun q : Nat => s.heap.size ≤ q) q := fun _ h => h
  have hbA : ¬ (fun q : Nat => s.heap.size ≤ q) b := Nat.not_le.mpr hbl
  have g1 : vp_in (x5 + 1) L := by rw [e5, show nI i + 1 = nI (i + 1) from nI_add i 1]; exact vp_in_nI (by omega) (by omega)
  obtain ⟨a1, ea1⟩ : ∃ y, y = xs (x5 + 1).toNatClampNeg := ⟨_, rfl⟩
  have g2 : vp_in (x5 + 2) L := by rw [e5, show nI i + 2 = nI (i + 2) from nI_add i 2]; exact vp_in_nI (by omega) (by omega)
  obtain ⟨a2, ea2⟩ : ∃ y, y = xs (x5 + 2).toNatClampNeg := ⟨_, rfl⟩
  obtain ⟨Mid, hH, hM⟩ := sem_ofRing (A := (fun q : Nat => s.heap.size ≤ q)) (mi := mi) l hnt G tys htI htO htJ htB hI a1 a2
  refine lv_aload_n hx hb dL_law_907 rfl (lv_at hl 1 rfl) ?_
  refine lv_aload_n hx hb dL_law_908 rfl (lv_at hl 0 rfl) ?_
  refine lv_iload hx hb dL_law_909 (lv_at hl 5 rfl) ?_
  refine lv_iconst (v := 1) hx hb dL_law_911 (by decide) ?_
  refine lv_iadd hx hb dL_law_912 ?_
  refine va_sld hx hb hX hbl hbA hS g1 dL_law_913 ?_
  refine re_i ea1.symm ?_
  refine lv_aload_n hx hb dL_law_914 rfl (lv_at hl 0 rfl) ?_
  refine lv_iload hx hb dL_law_915 (lv_at hl 5 rfl) ?_
  refine lv_iconst (v := 2) hx hb dL_law_917 (by decide) ?_
  refine lv_iadd hx hb dL_law_918 ?_
  refine va_sld hx hb hX hbl hbA hS g2 dL_law_919 ?_
  refine re_i ea2.symm ?_
  refine lv_aload_n hx hb dL_law_920 rfl (lv_at hl 3 rfl) ?_
  refine va_calli (vx_runSW (As := [.ref v, .int a1, .int a2, .ref oj]) (rest := []) ⟨hx, hb, hml, hown, hts⟩ hH (vx_cwSW 4 hts gL_law_L_ofRing rfl rfl rfl (by decide +kernel) ⟨Nat.le_of_ble_eq_true rfl, Nat.le_of_ble_eq_true rfl⟩) ⟨pcX_b, pcX_u hP hK hD hS hA hE⟩ rfl rfl hl.1 rfl (lv_room (Nat.le_of_ble_eq_true rfl)) dL_law_921 ⟨by show cells + 2 ≤ 601024; omega, by show slots + 12 ≤ 7293034; omega⟩) hS (fun q _ h => h) (fun q h => h) (fun k1 w t H locs ht hvm hMk hB hsz hk1 hS => ?_)
  rw [ht] at hB
  obtain ⟨hP, hD⟩ := hB
  obtain ⟨⟨vs12, h12⟩, hR⟩ := hM k1 w hMk
  refine lv_istore (lv' := [(6, .int k1), (0, .ref b), (1, .ref v), (2, .ref am), (3, .ref oj), (4, .ref od), (5, .int x5)]) hx hb dL_law_924 hl (by decide) rfl (fun ls hl => ?_)
  refine lv_aload_n hx hb dL_law_926 rfl (lv_at hl 3 rfl) ?_
  refine lv_aload_n hx hb dL_law_927 rfl (lv_at hl 1 rfl) ?_
  refine lv_iload hx hb dL_law_928 (lv_at hl 6 rfl) ?_
  refine lv_iconst (v := 1) hx hb dL_law_930 (by decide) ?_
  refine lv_iadd hx hb dL_law_931 ?_
  refine va_sld hx hb hX hbl hbA hS g1 dL_law_932 ?_
  refine re_i ea1.symm ?_
  refine lv_aload_n hx hb dL_law_933 rfl (lv_at hl 1 rfl) ?_
  refine lv_iload hx hb dL_law_934 (lv_at hl 6 rfl) ?_
  refine lv_iconst (v := 2) hx hb dL_law_936 (by decide) ?_
  refine lv_iadd hx hb dL_law_937 ?_
  refine va_sld hx hb hX hbl hbA hS g2 dL_law_938 ?_
  refine re_i ea2.symm ?_
  refine va_calli (va_runV (As := [.int a1, .int a2]) (rest := []) ⟨hx, hb, hml, hown, hts⟩ hR (cwV 2 hts gL_law_X8_ofRing rfl rfl rfl (by decide +kernel) ⟨Nat.le_of_ble_eq_true rfl, Nat.le_of_ble_eq_true rfl⟩) ⟨pcM_b, va_recv hK hP (ci := 9) (q0 := 12) rfl h12, pcM_u hP hK hD hS hA⟩ rfl rfl hl.1 rfl (lv_room (Nat.le_of_ble_eq_true rfl)) dL_law_939 ⟨by show cells + 2 + 0 ≤ 601024; omega, by show slots + 12 + 0 ≤ 7293034; omega⟩) hS (fun q _ h => h) (fun q h => h) (fun r2 w2 t H locs ht hvm hE2 hB hsz hk1 hS => ?_)
  rw [ht] at hB
  obtain ⟨hP, hD⟩ := hB
  obtain ⟨⟨ad, z, wi, dm, hm, hz⟩, hou, hI2⟩ := hE2
  refine lv_istore (lv' := [(7, .int r2), (6, .int k1), (0, .ref b), (1, .ref v), (2, .ref am), (3, .ref oj), (4, .ref od), (5, .int x5)]) hx hb dL_law_942 hl (by decide) rfl (fun ls hl => ?_)
  refine lv_aload_n hx hb dL_law_944 rfl (lv_at hl 4 rfl) ?_
  refine vp_callSi (va_Run.run (va_runV (As := []) (rest := []) ⟨hx, hb, hml, hown, hts⟩ (metX8_thrown l G tys w2 (F := fun _ _ => 0) hm) (cwV 0 hts gL_law_X8_thrown rfl rfl rfl (by decide +kernel) ⟨Nat.le_of_ble_eq_true rfl, Nat.le_of_ble_eq_true rfl⟩) ⟨pcR_b, va_recv hK hP (ci := 9) (q0 := 12) rfl hm, pcR_u hP hK⟩ rfl rfl hl.1 rfl (lv_room (Nat.le_of_ble_eq_true rfl)) dL_law_945 ⟨by show cells + 2 + 0 ≤ 601024; omega, by show slots + 12 + 0 ≤ 7293034; omega⟩)) (fun r3 h3 => ?_)
  refine lv_iload hx hb dL_law_948 (lv_at hl 1 rfl) ?_
  refine lv_icmp_eq (tgt := 955) hx hb dL_law_950 (by decide) (fun c1 => ?_) (fun c1 => absurd (h3.trans hz) c1)
  refine lv_iload hx hb dL_law_955 (lv_at hl 1 rfl) ?_
  refine lv_if_ne (tgt := 972) hx hb dL_law_957 (by decide) (fun c2 => ?_) (fun c2 => ?_)
  · refine lv_goto (tgt := 1803) hx hb dL_law_972 (by decide) ?_
    refine W.widen (k := cells + 8) (n := slots + 242) (by omega) (by omega) ?_
    exact kk _ _ _ _ hI2 hP hD hS (lv_sub hl [2, 3, 4, 5, 6, 7] rfl)
  · obtain ⟨f, hf, hf0⟩ := hou c2
    refine lv_aload_n hx hb dL_law_960 rfl (lv_at hl 5 rfl) ?_
    refine lv_iconst (v := 0) hx hb dL_law_961 (by decide) ?_
    refine va_lald hx hb hK hP 36 2 hf htJ in01 dL_law_962 ?_
    refine re_l (show f (0 : Int32).toNatClampNeg = r2.toInt64 from hf0) ?_
    refine lv_iload hx hb dL_law_963 (lv_at hl 0 rfl) ?_
    refine lv_i2l hx hb dL_law_965 rfl ?_
    refine W.lcmp hx hb dL_law_966 ?_
    refine re_i (lg_cmp_self _) ?_
    refine lv_if_eq (tgt := 972) hx hb dL_law_967 (by decide) (fun _ => ?_) (fun c3 => absurd rfl c3)
    refine lv_goto (tgt := 1803) hx hb dL_law_972 (by decide) ?_
    refine W.widen (k := cells + 8) (n := slots + 242) (by omega) (by omega) ?_
    exact kk _ _ _ _ hI2 hP hD hS (lv_sub hl [2, 3, 4, 5, 6, 7] rfl)
set_option maxHeartbeats 4000000 in
set_option maxRecDepth 100000 in
theorem case_current {p : Program} {l : Launch} {e : Env} {s : State} {m : MethodId} {below : List Frame} {meth : Method} {c : Code} (hnt : l.stackTraces = false) {G : va_G} {tys : List (ClassId × FieldType)} {tE mi : Nat} {cI cO cJ cB : ClassId} (htI : tI tys cI) (htO : tO tys cO) (htJ : tys[2]? = some (cJ, .long)) (htB : tys[3]? = some (cB, .double)) {b L : Nat} {xs : Nat → Int32} (hL : L ≤ 2048) (C0 : lw_At p s m meth c b L xs) {v am oj od : Nat} (hK : va_K G vwCl tys s) (hE : env (fun q : Nat => s.heap.size ≤ q) tE mi s s.heap) {ws : va_W} {H : Heap} {locs : List Loc} {i : Nat} {x5 : Int32} {cells slots : Nat} {Q : State → Prop} {ls : Array Slot} (hi : i + 3 < L) (e5 : x5 = nI i) (hI : INV cI cO cJ cB tE v am oj od ws) (hP : va_P G vwCl ws H) (hD : va_D (fun q : Nat => s.heap.size ≤ q) ws) (hS : va_S (fun q : Nat => s.heap.size ≤ q) s.heap H locs) (hl : lv_has ls 10 [(0, .ref b), (1, .ref v), (2, .ref am), (3, .ref oj), (4, .ref od), (5, .int x5)]) (hc : cells + 8 ≤ 601024) (hs : slots + 242 ≤ 7293034) (kk : ∀ (w : va_W) (H1 : Heap) (locs1 : List Loc) (ls1 : Array Slot), INV cI cO cJ cB tE v am oj od w → va_P G vwCl w H1 → va_D (fun q : Nat => s.heap.size ≤ q) w → va_S (fun q : Nat => s.heap.size ≤ q) s.heap H1 locs1 → lv_has ls1 10 [(0, .ref b), (1, .ref v), (2, .ref am), (3, .ref oj), (4, .ref od), (5, .int x5)] → W p l e room_1 s m #[Value.ref b] below meth c H1 locs1 (cells + 8) (slots + 242) Q (F0 m 1803 ls1 [])) : W p l e room_1 s m #[Value.ref b] below meth c H locs (cells) (slots) Q (F0 m 975 ls []) := by
  obtain ⟨hx, hb, hr, hml, hown, hts0, hX, hbl, hlocks, hgv⟩ := C0
  have hts : ∀ w ∈ wsL_law, w.before #[Value.ref b] s = true := fun w h => hts0 w (wsL_law_in w h)
  have hown : s.vm.findClass RL = some m.cls := hown
  have hA : ∀ q : Nat, s.heap.size ≤ q → (fun q : Nat => s.heap.size ≤ q) q := fun _ h => h
  have hbA : ¬ (fun q : Nat => s.heap.size ≤ q) b := Nat.not_le.mpr hbl
  have g1 : vp_in (x5 + 1) L := by rw [e5, show nI i + 1 = nI (i + 1) from nI_add i 1]; exact vp_in_nI (by omega) (by omega)
  obtain ⟨a1, ea1⟩ : ∃ y, y = xs (x5 + 1).toNatClampNeg := ⟨_, rfl⟩
  obtain ⟨Mid, hH, hM⟩ := sem_current (A := (fun q : Nat => s.heap.size ≤ q)) (mi := mi) l hnt G tys htI htO htJ htB hI a1
  refine lv_aload_n hx hb dL_law_975 rfl (lv_at hl 1 rfl) ?_
  refine lv_aload_n hx hb dL_law_976 rfl (lv_at hl 0 rfl) ?_
  refine lv_iload hx hb dL_law_977 (lv_at hl 5 rfl) ?_
  refine lv_iconst (v := 1) hx hb dL_law_979 (by decide) ?_
  refine lv_iadd hx hb dL_law_980 ?_
  refine va_sld hx hb hX hbl hbA hS g1 dL_law_981 ?_
  refine re_i ea1.symm ?_
  refine lv_aload_n hx hb dL_law_982 rfl (lv_at hl 3 rfl) ?_
  refine va_calli (vx_runSW (As := [.ref v, .int a1, .ref oj]) (rest := []) ⟨hx, hb, hml, hown, hts⟩ hH (vx_cwSW 3 hts gL_law_L_current rfl rfl rfl (by decide +kernel) ⟨Nat.le_of_ble_eq_true rfl, Nat.le_of_ble_eq_true rfl⟩) ⟨pcX_b, pcX_u hP hK hD hS hA hE⟩ rfl rfl hl.1 rfl (lv_room (Nat.le_of_ble_eq_true rfl)) dL_law_983 ⟨by show cells + 1 ≤ 601024; omega, by show slots + 6 ≤ 7293034; omega⟩) hS (fun q _ h => h) (fun q h => h) (fun k1 w t H locs ht hvm hMk hB hsz hk1 hS => ?_)
  rw [ht] at hB
  obtain ⟨hP, hD⟩ := hB
  obtain ⟨⟨vs12, h12⟩, hR⟩ := hM k1 w hMk
  refine lv_istore (lv' := [(6, .int k1), (0, .ref b), (1, .ref v), (2, .ref am), (3, .ref oj), (4, .ref od), (5, .int x5)]) hx hb dL_law_986 hl (by decide) rfl (fun ls hl => ?_)
  refine lv_aload_n hx hb dL_law_988 rfl (lv_at hl 3 rfl) ?_
  refine lv_aload_n hx hb dL_law_989 rfl (lv_at hl 1 rfl) ?_
  refine lv_iload hx hb dL_law_990 (lv_at hl 6 rfl) ?_
  refine lv_iconst (v := 1) hx hb dL_law_992 (by decide) ?_
  refine lv_iadd hx hb dL_law_993 ?_
  refine va_sld hx hb hX hbl hbA hS g1 dL_law_994 ?_
  refine re_i ea1.symm ?_
  refine va_calli (va_runV (As := [.int a1]) (rest := []) ⟨hx, hb, hml, hown, hts⟩ hR (cwV 1 hts gL_law_X8_current rfl rfl rfl (by decide +kernel) ⟨Nat.le_of_ble_eq_true rfl, Nat.le_of_ble_eq_true rfl⟩) ⟨pcM_b, va_recv hK hP (ci := 9) (q0 := 12) rfl h12, pcM_u hP hK hD hS hA⟩ rfl rfl hl.1 rfl (lv_room (Nat.le_of_ble_eq_true rfl)) dL_law_995 ⟨by show cells + 1 + 0 ≤ 601024; omega, by show slots + 6 + 0 ≤ 7293034; omega⟩) hS (fun q _ h => h) (fun q h => h) (fun r2 w2 t H locs ht hvm hE2 hB hsz hk1 hS => ?_)
  rw [ht] at hB
  obtain ⟨hP, hD⟩ := hB
  obtain ⟨⟨ad, z, wi, dm, hm, hz⟩, hou, hI2⟩ := hE2
  refine lv_istore (lv' := [(7, .int r2), (6, .int k1), (0, .ref b), (1, .ref v), (2, .ref am), (3, .ref oj), (4, .ref od), (5, .int x5)]) hx hb dL_law_998 hl (by decide) rfl (fun ls hl => ?_)
  refine lv_aload_n hx hb dL_law_1000 rfl (lv_at hl 4 rfl) ?_
  refine vp_callSi (va_Run.run (va_runV (As := []) (rest := []) ⟨hx, hb, hml, hown, hts⟩ (metX8_thrown l G tys w2 (F := fun _ _ => 0) hm) (cwV 0 hts gL_law_X8_thrown rfl rfl rfl (by decide +kernel) ⟨Nat.le_of_ble_eq_true rfl, Nat.le_of_ble_eq_true rfl⟩) ⟨pcR_b, va_recv hK hP (ci := 9) (q0 := 12) rfl hm, pcR_u hP hK⟩ rfl rfl hl.1 rfl (lv_room (Nat.le_of_ble_eq_true rfl)) dL_law_1001 ⟨by show cells + 1 + 0 ≤ 601024; omega, by show slots + 6 + 0 ≤ 7293034; omega⟩)) (fun r3 h3 => ?_)
  refine lv_iload hx hb dL_law_1004 (lv_at hl 1 rfl) ?_
  refine lv_icmp_eq (tgt := 1011) hx hb dL_law_1006 (by decide) (fun c1 => ?_) (fun c1 => absurd (h3.trans hz) c1)
  refine lv_iload hx hb dL_law_1011 (lv_at hl 1 rfl) ?_
  refine lv_if_ne (tgt := 1028) hx hb dL_law_1013 (by decide) (fun c2 => ?_) (fun c2 => ?_)
  · refine lv_goto (tgt := 1803) hx hb dL_law_1028 (by decide) ?_
    refine W.widen (k := cells + 8) (n := slots + 242) (by omega) (by omega) ?_
    exact kk _ _ _ _ hI2 hP hD hS (lv_sub hl [2, 3, 4, 5, 6, 7] rfl)
  · obtain ⟨f, hf, hf0⟩ := hou c2
    refine lv_aload_n hx hb dL_law_1016 rfl (lv_at hl 5 rfl) ?_
    refine lv_iconst (v := 0) hx hb dL_law_1017 (by decide) ?_
    refine va_lald hx hb hK hP 36 2 hf htJ in01 dL_law_1018 ?_
    refine re_l (show f (0 : Int32).toNatClampNeg = r2.toInt64 from hf0) ?_
    refine lv_iload hx hb dL_law_1019 (lv_at hl 0 rfl) ?_
    refine lv_i2l hx hb dL_law_1021 rfl ?_
    refine W.lcmp hx hb dL_law_1022 ?_
    refine re_i (lg_cmp_self _) ?_
    refine lv_if_eq (tgt := 1028) hx hb dL_law_1023 (by decide) (fun _ => ?_) (fun c3 => absurd rfl c3)
    refine lv_goto (tgt := 1803) hx hb dL_law_1028 (by decide) ?_
    refine W.widen (k := cells + 8) (n := slots + 242) (by omega) (by omega) ?_
    exact kk _ _ _ _ hI2 hP hD hS (lv_sub hl [2, 3, 4, 5, 6, 7] rfl)
set_option maxHeartbeats 4000000 in
set_option maxRecDepth 100000 in
theorem case_heat {p : Program} {l : Launch} {e : Env} {s : State} {m : MethodId} {below : List Frame} {meth : Method} {c : Code} (hnt : l.stackTraces = false) {G : va_G} {tys : List (ClassId × FieldType)} {tE mi : Nat} {cI cO cJ cB : ClassId} (htI : tI tys cI) (htO : tO tys cO) (htJ : tys[2]? = some (cJ, .long)) (htB : tys[3]? = some (cB, .double)) {b L : Nat} {xs : Nat → Int32} (hL : L ≤ 2048) (C0 : lw_At p s m meth c b L xs) {v am oj od : Nat} (hK : va_K G vwCl tys s) (hE : env (fun q : Nat => s.heap.size ≤ q) tE mi s s.heap) {ws : va_W} {H : Heap} {locs : List Loc} {i : Nat} {x5 : Int32} {cells slots : Nat} {Q : State → Prop} {ls : Array Slot} (hi : i + 3 < L) (e5 : x5 = nI i) (hI : INV cI cO cJ cB tE v am oj od ws) (hP : va_P G vwCl ws H) (hD : va_D (fun q : Nat => s.heap.size ≤ q) ws) (hS : va_S (fun q : Nat => s.heap.size ≤ q) s.heap H locs) (hl : lv_has ls 10 [(0, .ref b), (1, .ref v), (2, .ref am), (3, .ref oj), (4, .ref od), (5, .int x5)]) (hc : cells + 8 ≤ 601024) (hs : slots + 242 ≤ 7293034) (kk : ∀ (w : va_W) (H1 : Heap) (locs1 : List Loc) (ls1 : Array Slot), INV cI cO cJ cB tE v am oj od w → va_P G vwCl w H1 → va_D (fun q : Nat => s.heap.size ≤ q) w → va_S (fun q : Nat => s.heap.size ≤ q) s.heap H1 locs1 → lv_has ls1 10 [(0, .ref b), (1, .ref v), (2, .ref am), (3, .ref oj), (4, .ref od), (5, .int x5)] → W p l e room_1 s m #[Value.ref b] below meth c H1 locs1 (cells + 8) (slots + 242) Q (F0 m 1803 ls1 [])) : W p l e room_1 s m #[Value.ref b] below meth c H locs (cells) (slots) Q (F0 m 1031 ls []) := by
  obtain ⟨hx, hb, hr, hml, hown, hts0, hX, hbl, hlocks, hgv⟩ := C0
  have hts : ∀ w ∈ wsL_law, w.before #[Value.ref b] s = true := fun w h => hts0 w (wsL_law_in w h)
  have hown : s.vm.findClass RL = some m.cls := hown
  have hA : ∀ q : Nat, s.heap.size ≤ q → (fun q : Nat => s.heap.size ≤ q) q := fun _ h => h
  have hbA : ¬ (fun q : Nat => s.heap.size ≤ q) b := Nat.not_le.mpr hbl
  have g1 : vp_in (x5 + 1) L := by rw [e5, show nI i + 1 = nI (i + 1) from nI_add i 1]; exact vp_in_nI (by omega) (by omega)
  obtain ⟨a1, ea1⟩ : ∃ y, y = xs (x5 + 1).toNatClampNeg := ⟨_, rfl⟩
  have g2 : vp_in (x5 + 2) L := by rw [e5, show nI i + 2 = nI (i + 2) from nI_add i 2]; exact vp_in_nI (by omega) (by omega)
  obtain ⟨a2, ea2⟩ : ∃ y, y = xs (x5 + 2).toNatClampNeg := ⟨_, rfl⟩
  obtain ⟨Mid, hH, hM⟩ := sem_heat (A := (fun q : Nat => s.heap.size ≤ q)) (mi := mi) l hnt G tys htI htO htJ htB hI a1 a2
  refine lv_aload_n hx hb dL_law_1031 rfl (lv_at hl 1 rfl) ?_
  refine lv_aload_n hx hb dL_law_1032 rfl (lv_at hl 0 rfl) ?_
  refine lv_iload hx hb dL_law_1033 (lv_at hl 5 rfl) ?_
  refine lv_iconst (v := 1) hx hb dL_law_1035 (by decide) ?_
  refine lv_iadd hx hb dL_law_1036 ?_
  refine va_sld hx hb hX hbl hbA hS g1 dL_law_1037 ?_
  refine re_i ea1.symm ?_
  refine lv_aload_n hx hb dL_law_1038 rfl (lv_at hl 0 rfl) ?_
  refine lv_iload hx hb dL_law_1039 (lv_at hl 5 rfl) ?_
  refine lv_iconst (v := 2) hx hb dL_law_1041 (by decide) ?_
  refine lv_iadd hx hb dL_law_1042 ?_
  refine va_sld hx hb hX hbl hbA hS g2 dL_law_1043 ?_
  refine re_i ea2.symm ?_
  refine lv_aload_n hx hb dL_law_1044 rfl (lv_at hl 3 rfl) ?_
  refine va_calli (vx_runSW (As := [.ref v, .int a1, .int a2, .ref oj]) (rest := []) ⟨hx, hb, hml, hown, hts⟩ hH (vx_cwSW 4 hts gL_law_L_heat rfl rfl rfl (by decide +kernel) ⟨Nat.le_of_ble_eq_true rfl, Nat.le_of_ble_eq_true rfl⟩) ⟨pcX_b, pcX_u hP hK hD hS hA hE⟩ rfl rfl hl.1 rfl (lv_room (Nat.le_of_ble_eq_true rfl)) dL_law_1045 ⟨by show cells + 2 ≤ 601024; omega, by show slots + 12 ≤ 7293034; omega⟩) hS (fun q _ h => h) (fun q h => h) (fun k1 w t H locs ht hvm hMk hB hsz hk1 hS => ?_)
  rw [ht] at hB
  obtain ⟨hP, hD⟩ := hB
  obtain ⟨⟨vs12, h12⟩, hR⟩ := hM k1 w hMk
  refine lv_istore (lv' := [(6, .int k1), (0, .ref b), (1, .ref v), (2, .ref am), (3, .ref oj), (4, .ref od), (5, .int x5)]) hx hb dL_law_1048 hl (by decide) rfl (fun ls hl => ?_)
  refine lv_aload_n hx hb dL_law_1050 rfl (lv_at hl 3 rfl) ?_
  refine lv_aload_n hx hb dL_law_1051 rfl (lv_at hl 1 rfl) ?_
  refine lv_iload hx hb dL_law_1052 (lv_at hl 6 rfl) ?_
  refine lv_iconst (v := 1) hx hb dL_law_1054 (by decide) ?_
  refine lv_iadd hx hb dL_law_1055 ?_
  refine va_sld hx hb hX hbl hbA hS g1 dL_law_1056 ?_
  refine re_i ea1.symm ?_
  refine lv_aload_n hx hb dL_law_1057 rfl (lv_at hl 1 rfl) ?_
  refine lv_iload hx hb dL_law_1058 (lv_at hl 6 rfl) ?_
  refine lv_iconst (v := 2) hx hb dL_law_1060 (by decide) ?_
  refine lv_iadd hx hb dL_law_1061 ?_
  refine va_sld hx hb hX hbl hbA hS g2 dL_law_1062 ?_
  refine re_i ea2.symm ?_
  refine va_calli (va_runV (As := [.int a1, .int a2]) (rest := []) ⟨hx, hb, hml, hown, hts⟩ hR (cwV 2 hts gL_law_X8_heat rfl rfl rfl (by decide +kernel) ⟨Nat.le_of_ble_eq_true rfl, Nat.le_of_ble_eq_true rfl⟩) ⟨pcM_b, va_recv hK hP (ci := 9) (q0 := 12) rfl h12, pcM_u hP hK hD hS hA⟩ rfl rfl hl.1 rfl (lv_room (Nat.le_of_ble_eq_true rfl)) dL_law_1063 ⟨by show cells + 2 + 0 ≤ 601024; omega, by show slots + 12 + 0 ≤ 7293034; omega⟩) hS (fun q _ h => h) (fun q h => h) (fun r2 w2 t H locs ht hvm hE2 hB hsz hk1 hS => ?_)
  rw [ht] at hB
  obtain ⟨hP, hD⟩ := hB
  obtain ⟨⟨ad, z, wi, dm, hm, hz⟩, hou, hI2⟩ := hE2
  refine lv_istore (lv' := [(7, .int r2), (6, .int k1), (0, .ref b), (1, .ref v), (2, .ref am), (3, .ref oj), (4, .ref od), (5, .int x5)]) hx hb dL_law_1066 hl (by decide) rfl (fun ls hl => ?_)
  refine lv_aload_n hx hb dL_law_1068 rfl (lv_at hl 4 rfl) ?_
  refine vp_callSi (va_Run.run (va_runV (As := []) (rest := []) ⟨hx, hb, hml, hown, hts⟩ (metX8_thrown l G tys w2 (F := fun _ _ => 0) hm) (cwV 0 hts gL_law_X8_thrown rfl rfl rfl (by decide +kernel) ⟨Nat.le_of_ble_eq_true rfl, Nat.le_of_ble_eq_true rfl⟩) ⟨pcR_b, va_recv hK hP (ci := 9) (q0 := 12) rfl hm, pcR_u hP hK⟩ rfl rfl hl.1 rfl (lv_room (Nat.le_of_ble_eq_true rfl)) dL_law_1069 ⟨by show cells + 2 + 0 ≤ 601024; omega, by show slots + 12 + 0 ≤ 7293034; omega⟩)) (fun r3 h3 => ?_)
  refine lv_iload hx hb dL_law_1072 (lv_at hl 1 rfl) ?_
  refine lv_icmp_eq (tgt := 1079) hx hb dL_law_1074 (by decide) (fun c1 => ?_) (fun c1 => absurd (h3.trans hz) c1)
  refine lv_iload hx hb dL_law_1079 (lv_at hl 1 rfl) ?_
  refine lv_if_ne (tgt := 1096) hx hb dL_law_1081 (by decide) (fun c2 => ?_) (fun c2 => ?_)
  · refine lv_goto (tgt := 1803) hx hb dL_law_1096 (by decide) ?_
    refine W.widen (k := cells + 8) (n := slots + 242) (by omega) (by omega) ?_
    exact kk _ _ _ _ hI2 hP hD hS (lv_sub hl [2, 3, 4, 5, 6, 7] rfl)
  · obtain ⟨f, hf, hf0⟩ := hou c2
    refine lv_aload_n hx hb dL_law_1084 rfl (lv_at hl 5 rfl) ?_
    refine lv_iconst (v := 0) hx hb dL_law_1085 (by decide) ?_
    refine va_lald hx hb hK hP 36 2 hf htJ in01 dL_law_1086 ?_
    refine re_l (show f (0 : Int32).toNatClampNeg = r2.toInt64 from hf0) ?_
    refine lv_iload hx hb dL_law_1087 (lv_at hl 0 rfl) ?_
    refine lv_i2l hx hb dL_law_1089 rfl ?_
    refine W.lcmp hx hb dL_law_1090 ?_
    refine re_i (lg_cmp_self _) ?_
    refine lv_if_eq (tgt := 1096) hx hb dL_law_1091 (by decide) (fun _ => ?_) (fun c3 => absurd rfl c3)
    refine lv_goto (tgt := 1803) hx hb dL_law_1096 (by decide) ?_
    refine W.widen (k := cells + 8) (n := slots + 242) (by omega) (by omega) ?_
    exact kk _ _ _ _ hI2 hP hD hS (lv_sub hl [2, 3, 4, 5, 6, 7] rfl)
set_option maxHeartbeats 4000000 in
set_option maxRecDepth 100000 in
theorem case_pass {p : Program} {l : Launch} {e : Env} {s : State} {m : MethodId} {below : List Frame} {meth : Method} {c : Code} (hnt : l.stackTraces = false) {G : va_G} {tys : List (ClassId × FieldType)} {tE mi : Nat} {cI cO cJ cB : ClassId} (htI : tI tys cI) (htO : tO tys cO) (htJ : tys[2]? = some (cJ, .long)) (htB : tys[3]? = some (cB, .double)) {b L : Nat} {xs : Nat → Int32} (hL : L ≤ 2048) (C0 : lw_At p s m meth c b L xs) {v am oj od : Nat} (hK : va_K G vwCl tys s) (hE : env (fun q : Nat => s.heap.size ≤ q) tE mi s s.heap) {ws : va_W} {H : Heap} {locs : List Loc} {i : Nat} {x5 : Int32} {cells slots : Nat} {Q : State → Prop} {ls : Array Slot} (hi : i + 3 < L) (e5 : x5 = nI i) (hI : INV cI cO cJ cB tE v am oj od ws) (hP : va_P G vwCl ws H) (hD : va_D (fun q : Nat => s.heap.size ≤ q) ws) (hS : va_S (fun q : Nat => s.heap.size ≤ q) s.heap H locs) (hl : lv_has ls 10 [(0, .ref b), (1, .ref v), (2, .ref am), (3, .ref oj), (4, .ref od), (5, .int x5)]) (hc : cells + 8 ≤ 601024) (hs : slots + 242 ≤ 7293034) (kk : ∀ (w : va_W) (H1 : Heap) (locs1 : List Loc) (ls1 : Array Slot), INV cI cO cJ cB tE v am oj od w → va_P G vwCl w H1 → va_D (fun q : Nat => s.heap.size ≤ q) w → va_S (fun q : Nat => s.heap.size ≤ q) s.heap H1 locs1 → lv_has ls1 10 [(0, .ref b), (1, .ref v), (2, .ref am), (3, .ref oj), (4, .ref od), (5, .int x5)] → W p l e room_1 s m #[Value.ref b] below meth c H1 locs1 (cells + 8) (slots + 242) Q (F0 m 1803 ls1 [])) : W p l e room_1 s m #[Value.ref b] below meth c H locs (cells) (slots) Q (F0 m 1099 ls []) := by
  obtain ⟨hx, hb, hr, hml, hown, hts0, hX, hbl, hlocks, hgv⟩ := C0
  have hts : ∀ w ∈ wsL_law, w.before #[Value.ref b] s = true := fun w h => hts0 w (wsL_law_in w h)
  have hown : s.vm.findClass RL = some m.cls := hown
  have hA : ∀ q : Nat, s.heap.size ≤ q → (fun q : Nat => s.heap.size ≤ q) q := fun _ h => h
  have hbA : ¬ (fun q : Nat => s.heap.size ≤ q) b := Nat.not_le.mpr hbl
  have g1 : vp_in (x5 + 1) L := by rw [e5, show nI i + 1 = nI (i + 1) from nI_add i 1]; exact vp_in_nI (by omega) (by omega)
  obtain ⟨a1, ea1⟩ : ∃ y, y = xs (x5 + 1).toNatClampNeg := ⟨_, rfl⟩
  obtain ⟨Mid, hH, hM⟩ := sem_pass (A := (fun q : Nat => s.heap.size ≤ q)) (mi := mi) l hnt G tys htI htO htJ htB hI a1
  refine lv_aload_n hx hb dL_law_1099 rfl (lv_at hl 1 rfl) ?_
  refine lv_aload_n hx hb dL_law_1100 rfl (lv_at hl 0 rfl) ?_
  refine lv_iload hx hb dL_law_1101 (lv_at hl 5 rfl) ?_
  refine lv_iconst (v := 1) hx hb dL_law_1103 (by decide) ?_
  refine lv_iadd hx hb dL_law_1104 ?_
  refine va_sld hx hb hX hbl hbA hS g1 dL_law_1105 ?_
  refine re_i ea1.symm ?_
  refine lv_aload_n hx hb dL_law_1106 rfl (lv_at hl 3 rfl) ?_
  refine va_calli (vx_runSW (As := [.ref v, .int a1, .ref oj]) (rest := []) ⟨hx, hb, hml, hown, hts⟩ hH (vx_cwSW 3 hts gL_law_L_pass rfl rfl rfl (by decide +kernel) ⟨Nat.le_of_ble_eq_true rfl, Nat.le_of_ble_eq_true rfl⟩) ⟨pcX_b, pcX_u hP hK hD hS hA hE⟩ rfl rfl hl.1 rfl (lv_room (Nat.le_of_ble_eq_true rfl)) dL_law_1107 ⟨by show cells + 1 ≤ 601024; omega, by show slots + 6 ≤ 7293034; omega⟩) hS (fun q _ h => h) (fun q h => h) (fun k1 w t H locs ht hvm hMk hB hsz hk1 hS => ?_)
  rw [ht] at hB
  obtain ⟨hP, hD⟩ := hB
  obtain ⟨⟨vs12, h12⟩, hR⟩ := hM k1 w hMk
  refine lv_istore (lv' := [(6, .int k1), (0, .ref b), (1, .ref v), (2, .ref am), (3, .ref oj), (4, .ref od), (5, .int x5)]) hx hb dL_law_1110 hl (by decide) rfl (fun ls hl => ?_)
  refine lv_aload_n hx hb dL_law_1112 rfl (lv_at hl 3 rfl) ?_
  refine lv_aload_n hx hb dL_law_1113 rfl (lv_at hl 1 rfl) ?_
  refine lv_iload hx hb dL_law_1114 (lv_at hl 6 rfl) ?_
  refine lv_iconst (v := 1) hx hb dL_law_1116 (by decide) ?_
  refine lv_iadd hx hb dL_law_1117 ?_
  refine va_sld hx hb hX hbl hbA hS g1 dL_law_1118 ?_
  refine re_i ea1.symm ?_
  refine va_calli (va_runV (As := [.int a1]) (rest := []) ⟨hx, hb, hml, hown, hts⟩ hR (cwV 1 hts gL_law_X8_pass rfl rfl rfl (by decide +kernel) ⟨Nat.le_of_ble_eq_true rfl, Nat.le_of_ble_eq_true rfl⟩) ⟨pcM_b, va_recv hK hP (ci := 9) (q0 := 12) rfl h12, pcM_u hP hK hD hS hA⟩ rfl rfl hl.1 rfl (lv_room (Nat.le_of_ble_eq_true rfl)) dL_law_1119 ⟨by show cells + 1 + 0 ≤ 601024; omega, by show slots + 6 + 0 ≤ 7293034; omega⟩) hS (fun q _ h => h) (fun q h => h) (fun r2 w2 t H locs ht hvm hE2 hB hsz hk1 hS => ?_)
  rw [ht] at hB
  obtain ⟨hP, hD⟩ := hB
  obtain ⟨⟨ad, z, wi, dm, hm, hz⟩, hou, hI2⟩ := hE2
  refine lv_istore (lv' := [(7, .int r2), (6, .int k1), (0, .ref b), (1, .ref v), (2, .ref am), (3, .ref oj), (4, .ref od), (5, .int x5)]) hx hb dL_law_1122 hl (by decide) rfl (fun ls hl => ?_)
  refine lv_aload_n hx hb dL_law_1124 rfl (lv_at hl 4 rfl) ?_
  refine vp_callSi (va_Run.run (va_runV (As := []) (rest := []) ⟨hx, hb, hml, hown, hts⟩ (metX8_thrown l G tys w2 (F := fun _ _ => 0) hm) (cwV 0 hts gL_law_X8_thrown rfl rfl rfl (by decide +kernel) ⟨Nat.le_of_ble_eq_true rfl, Nat.le_of_ble_eq_true rfl⟩) ⟨pcR_b, va_recv hK hP (ci := 9) (q0 := 12) rfl hm, pcR_u hP hK⟩ rfl rfl hl.1 rfl (lv_room (Nat.le_of_ble_eq_true rfl)) dL_law_1125 ⟨by show cells + 1 + 0 ≤ 601024; omega, by show slots + 6 + 0 ≤ 7293034; omega⟩)) (fun r3 h3 => ?_)
  refine lv_iload hx hb dL_law_1128 (lv_at hl 1 rfl) ?_
  refine lv_icmp_eq (tgt := 1135) hx hb dL_law_1130 (by decide) (fun c1 => ?_) (fun c1 => absurd (h3.trans hz) c1)
  refine lv_iload hx hb dL_law_1135 (lv_at hl 1 rfl) ?_
  refine lv_if_ne (tgt := 1152) hx hb dL_law_1137 (by decide) (fun c2 => ?_) (fun c2 => ?_)
  · refine lv_goto (tgt := 1803) hx hb dL_law_1152 (by decide) ?_
    refine W.widen (k := cells + 8) (n := slots + 242) (by omega) (by omega) ?_
    exact kk _ _ _ _ hI2 hP hD hS (lv_sub hl [2, 3, 4, 5, 6, 7] rfl)
  · obtain ⟨f, hf, hf0⟩ := hou c2
    refine lv_aload_n hx hb dL_law_1140 rfl (lv_at hl 5 rfl) ?_
    refine lv_iconst (v := 0) hx hb dL_law_1141 (by decide) ?_
    refine va_lald hx hb hK hP 36 2 hf htJ in01 dL_law_1142 ?_
    refine re_l (show f (0 : Int32).toNatClampNeg = r2.toInt64 from hf0) ?_
    refine lv_iload hx hb dL_law_1143 (lv_at hl 0 rfl) ?_
    refine lv_i2l hx hb dL_law_1145 rfl ?_
    refine W.lcmp hx hb dL_law_1146 ?_
    refine re_i (lg_cmp_self _) ?_
    refine lv_if_eq (tgt := 1152) hx hb dL_law_1147 (by decide) (fun _ => ?_) (fun c3 => absurd rfl c3)
    refine lv_goto (tgt := 1803) hx hb dL_law_1152 (by decide) ?_
    refine W.widen (k := cells + 8) (n := slots + 242) (by omega) (by omega) ?_
    exact kk _ _ _ _ hI2 hP hD hS (lv_sub hl [2, 3, 4, 5, 6, 7] rfl)
set_option maxHeartbeats 4000000 in
set_option maxRecDepth 100000 in
theorem case_warmth {p : Program} {l : Launch} {e : Env} {s : State} {m : MethodId} {below : List Frame} {meth : Method} {c : Code} (hnt : l.stackTraces = false) {G : va_G} {tys : List (ClassId × FieldType)} {tE mi : Nat} {cI cO cJ cB : ClassId} (htI : tI tys cI) (htO : tO tys cO) (htJ : tys[2]? = some (cJ, .long)) (htB : tys[3]? = some (cB, .double)) {b L : Nat} {xs : Nat → Int32} (hL : L ≤ 2048) (C0 : lw_At p s m meth c b L xs) {v am oj od : Nat} (hK : va_K G vwCl tys s) (hE : env (fun q : Nat => s.heap.size ≤ q) tE mi s s.heap) {ws : va_W} {H : Heap} {locs : List Loc} {i : Nat} {x5 : Int32} {cells slots : Nat} {Q : State → Prop} {ls : Array Slot} (hi : i + 3 < L) (e5 : x5 = nI i) (hI : INV cI cO cJ cB tE v am oj od ws) (hP : va_P G vwCl ws H) (hD : va_D (fun q : Nat => s.heap.size ≤ q) ws) (hS : va_S (fun q : Nat => s.heap.size ≤ q) s.heap H locs) (hl : lv_has ls 10 [(0, .ref b), (1, .ref v), (2, .ref am), (3, .ref oj), (4, .ref od), (5, .int x5)]) (hc : cells + 8 ≤ 601024) (hs : slots + 242 ≤ 7293034) (kk : ∀ (w : va_W) (H1 : Heap) (locs1 : List Loc) (ls1 : Array Slot), INV cI cO cJ cB tE v am oj od w → va_P G vwCl w H1 → va_D (fun q : Nat => s.heap.size ≤ q) w → va_S (fun q : Nat => s.heap.size ≤ q) s.heap H1 locs1 → lv_has ls1 10 [(0, .ref b), (1, .ref v), (2, .ref am), (3, .ref oj), (4, .ref od), (5, .int x5)] → W p l e room_1 s m #[Value.ref b] below meth c H1 locs1 (cells + 8) (slots + 242) Q (F0 m 1803 ls1 [])) : W p l e room_1 s m #[Value.ref b] below meth c H locs (cells) (slots) Q (F0 m 1155 ls []) := by
  obtain ⟨hx, hb, hr, hml, hown, hts0, hX, hbl, hlocks, hgv⟩ := C0
  have hts : ∀ w ∈ wsL_law, w.before #[Value.ref b] s = true := fun w h => hts0 w (wsL_law_in w h)
  have hown : s.vm.findClass RL = some m.cls := hown
  have hA : ∀ q : Nat, s.heap.size ≤ q → (fun q : Nat => s.heap.size ≤ q) q := fun _ h => h
  have hbA : ¬ (fun q : Nat => s.heap.size ≤ q) b := Nat.not_le.mpr hbl
  have g1 : vp_in (x5 + 1) L := by rw [e5, show nI i + 1 = nI (i + 1) from nI_add i 1]; exact vp_in_nI (by omega) (by omega)
  obtain ⟨a1, ea1⟩ : ∃ y, y = xs (x5 + 1).toNatClampNeg := ⟨_, rfl⟩
  obtain ⟨Mid, hH, hM⟩ := sem_warmth (A := (fun q : Nat => s.heap.size ≤ q)) (mi := mi) l hnt G tys htI htO htJ htB hI a1
  refine lv_aload_n hx hb dL_law_1155 rfl (lv_at hl 1 rfl) ?_
  refine lv_aload_n hx hb dL_law_1156 rfl (lv_at hl 0 rfl) ?_
  refine lv_iload hx hb dL_law_1157 (lv_at hl 5 rfl) ?_
  refine lv_iconst (v := 1) hx hb dL_law_1159 (by decide) ?_
  refine lv_iadd hx hb dL_law_1160 ?_
  refine va_sld hx hb hX hbl hbA hS g1 dL_law_1161 ?_
  refine re_i ea1.symm ?_
  refine lv_aload_n hx hb dL_law_1162 rfl (lv_at hl 3 rfl) ?_
  refine va_calli (vx_runSW (As := [.ref v, .int a1, .ref oj]) (rest := []) ⟨hx, hb, hml, hown, hts⟩ hH (vx_cwSW 3 hts gL_law_L_warmth rfl rfl rfl (by decide +kernel) ⟨Nat.le_of_ble_eq_true rfl, Nat.le_of_ble_eq_true rfl⟩) ⟨pcX_b, pcX_u hP hK hD hS hA hE⟩ rfl rfl hl.1 rfl (lv_room (Nat.le_of_ble_eq_true rfl)) dL_law_1163 ⟨by show cells + 1 ≤ 601024; omega, by show slots + 6 ≤ 7293034; omega⟩) hS (fun q _ h => h) (fun q h => h) (fun k1 w t H locs ht hvm hMk hB hsz hk1 hS => ?_)
  rw [ht] at hB
  obtain ⟨hP, hD⟩ := hB
  obtain ⟨⟨vs12, h12⟩, hR⟩ := hM k1 w hMk
  refine lv_istore (lv' := [(6, .int k1), (0, .ref b), (1, .ref v), (2, .ref am), (3, .ref oj), (4, .ref od), (5, .int x5)]) hx hb dL_law_1166 hl (by decide) rfl (fun ls hl => ?_)
  refine lv_aload_n hx hb dL_law_1168 rfl (lv_at hl 3 rfl) ?_
  refine lv_aload_n hx hb dL_law_1169 rfl (lv_at hl 1 rfl) ?_
  refine lv_iload hx hb dL_law_1170 (lv_at hl 6 rfl) ?_
  refine lv_iconst (v := 1) hx hb dL_law_1172 (by decide) ?_
  refine lv_iadd hx hb dL_law_1173 ?_
  refine va_sld hx hb hX hbl hbA hS g1 dL_law_1174 ?_
  refine re_i ea1.symm ?_
  refine va_calli (va_runV (As := [.int a1]) (rest := []) ⟨hx, hb, hml, hown, hts⟩ hR (cwV 1 hts gL_law_X8_warmth rfl rfl rfl (by decide +kernel) ⟨Nat.le_of_ble_eq_true rfl, Nat.le_of_ble_eq_true rfl⟩) ⟨pcM_b, va_recv hK hP (ci := 9) (q0 := 12) rfl h12, pcM_u hP hK hD hS hA⟩ rfl rfl hl.1 rfl (lv_room (Nat.le_of_ble_eq_true rfl)) dL_law_1175 ⟨by show cells + 1 + 0 ≤ 601024; omega, by show slots + 6 + 0 ≤ 7293034; omega⟩) hS (fun q _ h => h) (fun q h => h) (fun r2 w2 t H locs ht hvm hE2 hB hsz hk1 hS => ?_)
  rw [ht] at hB
  obtain ⟨hP, hD⟩ := hB
  obtain ⟨⟨ad, z, wi, dm, hm, hz⟩, hou, hI2⟩ := hE2
  refine lv_istore (lv' := [(7, .int r2), (6, .int k1), (0, .ref b), (1, .ref v), (2, .ref am), (3, .ref oj), (4, .ref od), (5, .int x5)]) hx hb dL_law_1178 hl (by decide) rfl (fun ls hl => ?_)
  refine lv_aload_n hx hb dL_law_1180 rfl (lv_at hl 4 rfl) ?_
  refine vp_callSi (va_Run.run (va_runV (As := []) (rest := []) ⟨hx, hb, hml, hown, hts⟩ (metX8_thrown l G tys w2 (F := fun _ _ => 0) hm) (cwV 0 hts gL_law_X8_thrown rfl rfl rfl (by decide +kernel) ⟨Nat.le_of_ble_eq_true rfl, Nat.le_of_ble_eq_true rfl⟩) ⟨pcR_b, va_recv hK hP (ci := 9) (q0 := 12) rfl hm, pcR_u hP hK⟩ rfl rfl hl.1 rfl (lv_room (Nat.le_of_ble_eq_true rfl)) dL_law_1181 ⟨by show cells + 1 + 0 ≤ 601024; omega, by show slots + 6 + 0 ≤ 7293034; omega⟩)) (fun r3 h3 => ?_)
  refine lv_iload hx hb dL_law_1184 (lv_at hl 1 rfl) ?_
  refine lv_icmp_eq (tgt := 1191) hx hb dL_law_1186 (by decide) (fun c1 => ?_) (fun c1 => absurd (h3.trans hz) c1)
  refine lv_iload hx hb dL_law_1191 (lv_at hl 1 rfl) ?_
  refine lv_if_ne (tgt := 1208) hx hb dL_law_1193 (by decide) (fun c2 => ?_) (fun c2 => ?_)
  · refine lv_goto (tgt := 1803) hx hb dL_law_1208 (by decide) ?_
    refine W.widen (k := cells + 8) (n := slots + 242) (by omega) (by omega) ?_
    exact kk _ _ _ _ hI2 hP hD hS (lv_sub hl [2, 3, 4, 5, 6, 7] rfl)
  · obtain ⟨f, hf, hf0⟩ := hou c2
    refine lv_aload_n hx hb dL_law_1196 rfl (lv_at hl 5 rfl) ?_
    refine lv_iconst (v := 0) hx hb dL_law_1197 (by decide) ?_
    refine va_lald hx hb hK hP 36 2 hf htJ in01 dL_law_1198 ?_
    refine re_l (show f (0 : Int32).toNatClampNeg = r2.toInt64 from hf0) ?_
    refine lv_iload hx hb dL_law_1199 (lv_at hl 0 rfl) ?_
    refine lv_i2l hx hb dL_law_1201 rfl ?_
    refine W.lcmp hx hb dL_law_1202 ?_
    refine re_i (lg_cmp_self _) ?_
    refine lv_if_eq (tgt := 1208) hx hb dL_law_1203 (by decide) (fun _ => ?_) (fun c3 => absurd rfl c3)
    refine lv_goto (tgt := 1803) hx hb dL_law_1208 (by decide) ?_
    refine W.widen (k := cells + 8) (n := slots + 242) (by omega) (by omega) ?_
    exact kk _ _ _ _ hI2 hP hD hS (lv_sub hl [2, 3, 4, 5, 6, 7] rfl)
set_option maxHeartbeats 4000000 in
set_option maxRecDepth 100000 in
theorem case_ofCoil {p : Program} {l : Launch} {e : Env} {s : State} {m : MethodId} {below : List Frame} {meth : Method} {c : Code} (hnt : l.stackTraces = false) {G : va_G} {tys : List (ClassId × FieldType)} {tE mi : Nat} {cI cO cJ cB : ClassId} (htI : tI tys cI) (htO : tO tys cO) (htJ : tys[2]? = some (cJ, .long)) (htB : tys[3]? = some (cB, .double)) {b L : Nat} {xs : Nat → Int32} (hL : L ≤ 2048) (C0 : lw_At p s m meth c b L xs) {v am oj od : Nat} (hK : va_K G vwCl tys s) (hE : env (fun q : Nat => s.heap.size ≤ q) tE mi s s.heap) {ws : va_W} {H : Heap} {locs : List Loc} {i : Nat} {x5 : Int32} {cells slots : Nat} {Q : State → Prop} {ls : Array Slot} (hi : i + 3 < L) (e5 : x5 = nI i) (hI : INV cI cO cJ cB tE v am oj od ws) (hP : va_P G vwCl ws H) (hD : va_D (fun q : Nat => s.heap.size ≤ q) ws) (hS : va_S (fun q : Nat => s.heap.size ≤ q) s.heap H locs) (hl : lv_has ls 10 [(0, .ref b), (1, .ref v), (2, .ref am), (3, .ref oj), (4, .ref od), (5, .int x5)]) (hc : cells + 8 ≤ 601024) (hs : slots + 242 ≤ 7293034) (kk : ∀ (w : va_W) (H1 : Heap) (locs1 : List Loc) (ls1 : Array Slot), INV cI cO cJ cB tE v am oj od w → va_P G vwCl w H1 → va_D (fun q : Nat => s.heap.size ≤ q) w → va_S (fun q : Nat => s.heap.size ≤ q) s.heap H1 locs1 → lv_has ls1 10 [(0, .ref b), (1, .ref v), (2, .ref am), (3, .ref oj), (4, .ref od), (5, .int x5)] → W p l e room_1 s m #[Value.ref b] below meth c H1 locs1 (cells + 8) (slots + 242) Q (F0 m 1803 ls1 [])) : W p l e room_1 s m #[Value.ref b] below meth c H locs (cells) (slots) Q (F0 m 1211 ls []) := by
  obtain ⟨hx, hb, hr, hml, hown, hts0, hX, hbl, hlocks, hgv⟩ := C0
  have hts : ∀ w ∈ wsL_law, w.before #[Value.ref b] s = true := fun w h => hts0 w (wsL_law_in w h)
  have hown : s.vm.findClass RL = some m.cls := hown
  have hA : ∀ q : Nat, s.heap.size ≤ q → (fun q : Nat => s.heap.size ≤ q) q := fun _ h => h
  have hbA : ¬ (fun q : Nat => s.heap.size ≤ q) b := Nat.not_le.mpr hbl
  have g1 : vp_in (x5 + 1) L := by rw [e5, show nI i + 1 = nI (i + 1) from nI_add i 1]; exact vp_in_nI (by omega) (by omega)
  obtain ⟨a1, ea1⟩ : ∃ y, y = xs (x5 + 1).toNatClampNeg := ⟨_, rfl⟩
  obtain ⟨Mid, hH, hM⟩ := sem_ofCoil (A := (fun q : Nat => s.heap.size ≤ q)) (mi := mi) l hnt G tys htI htO htJ htB hI a1
  refine lv_aload_n hx hb dL_law_1211 rfl (lv_at hl 1 rfl) ?_
  refine lv_aload_n hx hb dL_law_1212 rfl (lv_at hl 0 rfl) ?_
  refine lv_iload hx hb dL_law_1213 (lv_at hl 5 rfl) ?_
  refine lv_iconst (v := 1) hx hb dL_law_1215 (by decide) ?_
  refine lv_iadd hx hb dL_law_1216 ?_
  refine va_sld hx hb hX hbl hbA hS g1 dL_law_1217 ?_
  refine re_i ea1.symm ?_
  refine lv_aload_n hx hb dL_law_1218 rfl (lv_at hl 3 rfl) ?_
  refine va_calli (vx_runSW (As := [.ref v, .int a1, .ref oj]) (rest := []) ⟨hx, hb, hml, hown, hts⟩ hH (vx_cwSW 3 hts gL_law_L_ofCoil rfl rfl rfl (by decide +kernel) ⟨Nat.le_of_ble_eq_true rfl, Nat.le_of_ble_eq_true rfl⟩) ⟨pcX_b, pcX_u hP hK hD hS hA hE⟩ rfl rfl hl.1 rfl (lv_room (Nat.le_of_ble_eq_true rfl)) dL_law_1219 ⟨by show cells + 1 ≤ 601024; omega, by show slots + 6 ≤ 7293034; omega⟩) hS (fun q _ h => h) (fun q h => h) (fun k1 w t H locs ht hvm hMk hB hsz hk1 hS => ?_)
  rw [ht] at hB
  obtain ⟨hP, hD⟩ := hB
  obtain ⟨⟨vs12, h12⟩, hR⟩ := hM k1 w hMk
  refine lv_istore (lv' := [(6, .int k1), (0, .ref b), (1, .ref v), (2, .ref am), (3, .ref oj), (4, .ref od), (5, .int x5)]) hx hb dL_law_1222 hl (by decide) rfl (fun ls hl => ?_)
  refine lv_aload_n hx hb dL_law_1224 rfl (lv_at hl 3 rfl) ?_
  refine lv_aload_n hx hb dL_law_1225 rfl (lv_at hl 1 rfl) ?_
  refine lv_iload hx hb dL_law_1226 (lv_at hl 6 rfl) ?_
  refine lv_iconst (v := 1) hx hb dL_law_1228 (by decide) ?_
  refine lv_iadd hx hb dL_law_1229 ?_
  refine va_sld hx hb hX hbl hbA hS g1 dL_law_1230 ?_
  refine re_i ea1.symm ?_
  refine va_calll (va_runV (As := [.int a1]) (rest := []) ⟨hx, hb, hml, hown, hts⟩ hR (cwV 1 hts gL_law_X8_ofCoil rfl rfl rfl (by decide +kernel) ⟨Nat.le_of_ble_eq_true rfl, Nat.le_of_ble_eq_true rfl⟩) ⟨pcM_b, va_recv hK hP (ci := 9) (q0 := 12) rfl h12, pcM_u hP hK hD hS hA⟩ rfl rfl hl.1 rfl (lv_room (Nat.le_of_ble_eq_true rfl)) dL_law_1231 ⟨by show cells + 1 + 0 ≤ 601024; omega, by show slots + 6 + 0 ≤ 7293034; omega⟩) hS (fun q _ h => h) (fun q h => h) (fun r2 w2 t H locs ht hvm hE2 hB hsz hk1 hS => ?_)
  rw [ht] at hB
  obtain ⟨hP, hD⟩ := hB
  obtain ⟨⟨ad, z, wi, dm, hm, hz⟩, hou, hI2⟩ := hE2
  refine lv_lstore (lv' := [(7, .long r2), (6, .int k1), (0, .ref b), (1, .ref v), (2, .ref am), (3, .ref oj), (4, .ref od), (5, .int x5)]) hx hb dL_law_1234 hl (by decide) rfl (fun ls hl => ?_)
  refine lv_aload_n hx hb dL_law_1236 rfl (lv_at hl 4 rfl) ?_
  refine vp_callSi (va_Run.run (va_runV (As := []) (rest := []) ⟨hx, hb, hml, hown, hts⟩ (metX8_thrown l G tys w2 (F := fun _ _ => 0) hm) (cwV 0 hts gL_law_X8_thrown rfl rfl rfl (by decide +kernel) ⟨Nat.le_of_ble_eq_true rfl, Nat.le_of_ble_eq_true rfl⟩) ⟨pcR_b, va_recv hK hP (ci := 9) (q0 := 12) rfl hm, pcR_u hP hK⟩ rfl rfl hl.1 rfl (lv_room (Nat.le_of_ble_eq_true rfl)) dL_law_1237 ⟨by show cells + 1 + 0 ≤ 601024; omega, by show slots + 6 + 0 ≤ 7293034; omega⟩)) (fun r3 h3 => ?_)
  refine lv_iload hx hb dL_law_1240 (lv_at hl 1 rfl) ?_
  refine lv_icmp_eq (tgt := 1247) hx hb dL_law_1242 (by decide) (fun c1 => ?_) (fun c1 => absurd (h3.trans hz) c1)
  refine lv_iload hx hb dL_law_1247 (lv_at hl 1 rfl) ?_
  refine lv_if_ne (tgt := 1263) hx hb dL_law_1249 (by decide) (fun c2 => ?_) (fun c2 => ?_)
  · refine lv_goto (tgt := 1803) hx hb dL_law_1263 (by decide) ?_
    refine W.widen (k := cells + 8) (n := slots + 242) (by omega) (by omega) ?_
    exact kk _ _ _ _ hI2 hP hD hS (lv_sub hl [2, 3, 4, 5, 6, 7] rfl)
  · obtain ⟨f, hf, hf0⟩ := hou c2
    refine lv_aload_n hx hb dL_law_1252 rfl (lv_at hl 5 rfl) ?_
    refine lv_iconst (v := 0) hx hb dL_law_1253 (by decide) ?_
    refine va_lald hx hb hK hP 36 2 hf htJ in01 dL_law_1254 ?_
    refine re_l (show f (0 : Int32).toNatClampNeg = r2 from hf0) ?_
    refine lv_lload hx hb dL_law_1255 (lv_at hl 0 rfl) ?_
    refine W.lcmp hx hb dL_law_1257 ?_
    refine re_i (lg_cmp_self _) ?_
    refine lv_if_eq (tgt := 1263) hx hb dL_law_1258 (by decide) (fun _ => ?_) (fun c3 => absurd rfl c3)
    refine lv_goto (tgt := 1803) hx hb dL_law_1263 (by decide) ?_
    refine W.widen (k := cells + 8) (n := slots + 242) (by omega) (by omega) ?_
    exact kk _ _ _ _ hI2 hP hD hS (lv_sub hl [2, 3, 4, 5, 6, 7] rfl)
set_option maxHeartbeats 4000000 in
set_option maxRecDepth 100000 in
theorem case_share {p : Program} {l : Launch} {e : Env} {s : State} {m : MethodId} {below : List Frame} {meth : Method} {c : Code} (hnt : l.stackTraces = false) {G : va_G} {tys : List (ClassId × FieldType)} {tE mi : Nat} {cI cO cJ cB : ClassId} (htI : tI tys cI) (htO : tO tys cO) (htJ : tys[2]? = some (cJ, .long)) (htB : tys[3]? = some (cB, .double)) {b L : Nat} {xs : Nat → Int32} (hL : L ≤ 2048) (C0 : lw_At p s m meth c b L xs) {v am oj od : Nat} (hK : va_K G vwCl tys s) (hE : env (fun q : Nat => s.heap.size ≤ q) tE mi s s.heap) {ws : va_W} {H : Heap} {locs : List Loc} {i : Nat} {x5 : Int32} {cells slots : Nat} {Q : State → Prop} {ls : Array Slot} (hi : i + 3 < L) (e5 : x5 = nI i) (hI : INV cI cO cJ cB tE v am oj od ws) (hP : va_P G vwCl ws H) (hD : va_D (fun q : Nat => s.heap.size ≤ q) ws) (hS : va_S (fun q : Nat => s.heap.size ≤ q) s.heap H locs) (hl : lv_has ls 10 [(0, .ref b), (1, .ref v), (2, .ref am), (3, .ref oj), (4, .ref od), (5, .int x5)]) (hc : cells + 8 ≤ 601024) (hs : slots + 242 ≤ 7293034) (kk : ∀ (w : va_W) (H1 : Heap) (locs1 : List Loc) (ls1 : Array Slot), INV cI cO cJ cB tE v am oj od w → va_P G vwCl w H1 → va_D (fun q : Nat => s.heap.size ≤ q) w → va_S (fun q : Nat => s.heap.size ≤ q) s.heap H1 locs1 → lv_has ls1 10 [(0, .ref b), (1, .ref v), (2, .ref am), (3, .ref oj), (4, .ref od), (5, .int x5)] → W p l e room_1 s m #[Value.ref b] below meth c H1 locs1 (cells + 8) (slots + 242) Q (F0 m 1803 ls1 [])) : W p l e room_1 s m #[Value.ref b] below meth c H locs (cells) (slots) Q (F0 m 1266 ls []) := by
  obtain ⟨hx, hb, hr, hml, hown, hts0, hX, hbl, hlocks, hgv⟩ := C0
  have hts : ∀ w ∈ wsL_law, w.before #[Value.ref b] s = true := fun w h => hts0 w (wsL_law_in w h)
  have hown : s.vm.findClass RL = some m.cls := hown
  have hA : ∀ q : Nat, s.heap.size ≤ q → (fun q : Nat => s.heap.size ≤ q) q := fun _ h => h
  have hbA : ¬ (fun q : Nat => s.heap.size ≤ q) b := Nat.not_le.mpr hbl
  have hI9 := hI
  obtain ⟨own, ad, z, F, wi, dm, ⟨aS, af, aR, ao, ak, aP, aC⟩, np, hI0⟩ := hI9
  have hv := hI0.2.1
  obtain ⟨Mid, hH, hM⟩ := sem_share (A := (fun q : Nat => s.heap.size ≤ q)) (mi := mi) l hnt G tys htI htO htJ htB hI
  refine lv_aload_n hx hb dL_law_1266 rfl (lv_at hl 1 rfl) ?_
  refine va_calld (va_runV (As := []) (rest := []) ⟨hx, hb, hml, hown, hts⟩ hH (cwV 0 hts gL_law_X7_share rfl rfl rfl (by decide +kernel) ⟨Nat.le_of_ble_eq_true rfl, Nat.le_of_ble_eq_true rfl⟩) ⟨pcM_b, va_recv hK hP (ci := 8) (q0 := 0) rfl hv, pcM_u hP hK hD hS hA⟩ rfl rfl hl.1 rfl (lv_room (Nat.le_of_ble_eq_true rfl)) dL_law_1267 ⟨by show cells + 0 ≤ 601024; omega, by show slots + 0 ≤ 7293034; omega⟩) hS (fun q _ h => h) (fun q h => h) (fun k1 w t H locs ht hvm hMk hB hsz hk1 hS => ?_)
  rw [ht] at hB
  obtain ⟨hP, hD⟩ := hB
  obtain ⟨⟨vs12, h12⟩, hR⟩ := hM k1 w hMk
  refine lv_dstore (lv' := [(6, .double k1), (0, .ref b), (1, .ref v), (2, .ref am), (3, .ref oj), (4, .ref od), (5, .int x5)]) hx hb dL_law_1270 hl (by decide) rfl (fun ls hl => ?_)
  refine lv_aload_n hx hb dL_law_1272 rfl (lv_at hl 3 rfl) ?_
  refine va_calld (va_runV (As := []) (rest := []) ⟨hx, hb, hml, hown, hts⟩ hR (cwV 0 hts gL_law_X8_share rfl rfl rfl (by decide +kernel) ⟨Nat.le_of_ble_eq_true rfl, Nat.le_of_ble_eq_true rfl⟩) ⟨pcM_b, va_recv hK hP (ci := 9) (q0 := 12) rfl h12, pcM_u hP hK hD hS hA⟩ rfl rfl hl.1 rfl (lv_room (Nat.le_of_ble_eq_true rfl)) dL_law_1273 ⟨by show cells + 0 ≤ 601024; omega, by show slots + 0 ≤ 7293034; omega⟩) hS (fun q _ h => h) (fun q h => h) (fun r2 w2 t H locs ht hvm hE2 hB hsz hk1 hS => ?_)
  rw [ht] at hB
  obtain ⟨hP, hD⟩ := hB
  obtain ⟨rfl, hI2⟩ := hE2
  refine lv_dstore (lv' := [(8, .double r2), (6, .double k1), (0, .ref b), (1, .ref v), (2, .ref am), (3, .ref oj), (4, .ref od), (5, .int x5)]) hx hb dL_law_1276 hl (by decide) rfl (fun ls hl => ?_)
  by_cases cz : Op.cmpValue (FP.dcmp r2 r2) .l = 0
  · refine lv_dload hx hb dL_law_1278 (lv_at hl 1 rfl) ?_
    refine lv_dload hx hb dL_law_1280 (lv_at hl 0 rfl) ?_
    refine lv_dcmp hx hb dL_law_1282 ?_
    refine lv_if_eq (tgt := 1304) hx hb dL_law_1283 (by decide) (fun _ => ?_) (fun c3 => absurd cz c3)
    refine lv_goto (tgt := 1803) hx hb dL_law_1304 (by decide) ?_
    refine W.widen (k := cells + 8) (n := slots + 242) (by omega) (by omega) ?_
    exact kk _ _ _ _ hI2 hP hD hS (lv_sub hl [2, 3, 4, 5, 6, 7] rfl)
  · refine lv_dload hx hb dL_law_1278 (lv_at hl 1 rfl) ?_
    refine lv_dload hx hb dL_law_1280 (lv_at hl 0 rfl) ?_
    refine lv_dcmp hx hb dL_law_1282 ?_
    refine lv_if_eq (tgt := 1304) hx hb dL_law_1283 (by decide) (fun c3 => absurd c3 cz) (fun _ => ?_)
    refine lv_dload hx hb dL_law_1286 (lv_at hl 1 rfl) ?_
    refine lv_dload hx hb dL_law_1288 (lv_at hl 1 rfl) ?_
    refine lv_dcmp hx hb dL_law_1290 ?_
    refine lv_if_eq (tgt := 1302) hx hb dL_law_1291 (by decide) (fun c3 => absurd c3 cz) (fun _ => ?_)
    refine lv_dload hx hb dL_law_1294 (lv_at hl 0 rfl) ?_
    refine lv_dload hx hb dL_law_1296 (lv_at hl 0 rfl) ?_
    refine lv_dcmp hx hb dL_law_1298 ?_
    refine lv_if_ne (tgt := 1304) hx hb dL_law_1299 (by decide) (fun _ => ?_) (fun c3 => absurd c3 cz)
    refine lv_goto (tgt := 1803) hx hb dL_law_1304 (by decide) ?_
    refine W.widen (k := cells + 8) (n := slots + 242) (by omega) (by omega) ?_
    exact kk _ _ _ _ hI2 hP hD hS (lv_sub hl [2, 3, 4, 5, 6, 7] rfl)
set_option maxHeartbeats 4000000 in
set_option maxRecDepth 100000 in
theorem case_margins {p : Program} {l : Launch} {e : Env} {s : State} {m : MethodId} {below : List Frame} {meth : Method} {c : Code} (hnt : l.stackTraces = false) {G : va_G} {tys : List (ClassId × FieldType)} {tE mi : Nat} {cI cO cJ cB : ClassId} (htI : tI tys cI) (htO : tO tys cO) (htJ : tys[2]? = some (cJ, .long)) (htB : tys[3]? = some (cB, .double)) {b L : Nat} {xs : Nat → Int32} (hL : L ≤ 2048) (C0 : lw_At p s m meth c b L xs) {v am oj od : Nat} (hK : va_K G vwCl tys s) (hE : env (fun q : Nat => s.heap.size ≤ q) tE mi s s.heap) {ws : va_W} {H : Heap} {locs : List Loc} {i : Nat} {x5 : Int32} {cells slots : Nat} {Q : State → Prop} {ls : Array Slot} (hi : i + 3 < L) (e5 : x5 = nI i) (hI : INV cI cO cJ cB tE v am oj od ws) (hP : va_P G vwCl ws H) (hD : va_D (fun q : Nat => s.heap.size ≤ q) ws) (hS : va_S (fun q : Nat => s.heap.size ≤ q) s.heap H locs) (hl : lv_has ls 10 [(0, .ref b), (1, .ref v), (2, .ref am), (3, .ref oj), (4, .ref od), (5, .int x5)]) (hc : cells + 8 ≤ 601024) (hs : slots + 242 ≤ 7293034) (kk : ∀ (w : va_W) (H1 : Heap) (locs1 : List Loc) (ls1 : Array Slot), INV cI cO cJ cB tE v am oj od w → va_P G vwCl w H1 → va_D (fun q : Nat => s.heap.size ≤ q) w → va_S (fun q : Nat => s.heap.size ≤ q) s.heap H1 locs1 → lv_has ls1 10 [(0, .ref b), (1, .ref v), (2, .ref am), (3, .ref oj), (4, .ref od), (5, .int x5)] → W p l e room_1 s m #[Value.ref b] below meth c H1 locs1 (cells + 8) (slots + 242) Q (F0 m 1803 ls1 [])) : W p l e room_1 s m #[Value.ref b] below meth c H locs (cells) (slots) Q (F0 m 1307 ls []) := by
  obtain ⟨hx, hb, hr, hml, hown, hts0, hX, hbl, hlocks, hgv⟩ := C0
  have hts : ∀ w ∈ wsL_law, w.before #[Value.ref b] s = true := fun w h => hts0 w (wsL_law_in w h)
  have hown : s.vm.findClass RL = some m.cls := hown
  have hA : ∀ q : Nat, s.heap.size ≤ q → (fun q : Nat => s.heap.size ≤ q) q := fun _ h => h
  have hbA : ¬ (fun q : Nat => s.heap.size ≤ q) b := Nat.not_le.mpr hbl
  have g1 : vp_in (x5 + 1) L := by rw [e5, show nI i + 1 = nI (i + 1) from nI_add i 1]; exact vp_in_nI (by omega) (by omega)
  obtain ⟨a1, ea1⟩ : ∃ y, y = xs (x5 + 1).toNatClampNeg := ⟨_, rfl⟩
  have g2 : vp_in (x5 + 2) L := by rw [e5, show nI i + 2 = nI (i + 2) from nI_add i 2]; exact vp_in_nI (by omega) (by omega)
  obtain ⟨a2, ea2⟩ : ∃ y, y = xs (x5 + 2).toNatClampNeg := ⟨_, rfl⟩
  obtain ⟨Mid, hH, hM⟩ := sem_margins (A := (fun q : Nat => s.heap.size ≤ q)) (mi := mi) l hnt G tys htI htO htJ htB hI a1 a2
  refine lv_aload_n hx hb dL_law_1307 rfl (lv_at hl 1 rfl) ?_
  refine lv_aload_n hx hb dL_law_1308 rfl (lv_at hl 0 rfl) ?_
  refine lv_iload hx hb dL_law_1309 (lv_at hl 5 rfl) ?_
  refine lv_iconst (v := 1) hx hb dL_law_1311 (by decide) ?_
  refine lv_iadd hx hb dL_law_1312 ?_
  refine va_sld hx hb hX hbl hbA hS g1 dL_law_1313 ?_
  refine re_i ea1.symm ?_
  refine lv_aload_n hx hb dL_law_1314 rfl (lv_at hl 0 rfl) ?_
  refine lv_iload hx hb dL_law_1315 (lv_at hl 5 rfl) ?_
  refine lv_iconst (v := 2) hx hb dL_law_1317 (by decide) ?_
  refine lv_iadd hx hb dL_law_1318 ?_
  refine va_sld hx hb hX hbl hbA hS g2 dL_law_1319 ?_
  refine re_i ea2.symm ?_
  refine va_calli (vx_runSW (As := [.ref v, .int a1, .int a2]) (rest := []) ⟨hx, hb, hml, hown, hts⟩ hH (vx_cwSW 3 hts gL_law_L_margins rfl rfl rfl (by decide +kernel) ⟨Nat.le_of_ble_eq_true rfl, Nat.le_of_ble_eq_true rfl⟩) ⟨pcX_b, pcX_u hP hK hD hS hA hE⟩ rfl rfl hl.1 rfl (lv_room (Nat.le_of_ble_eq_true rfl)) dL_law_1320 ⟨by show cells + 2 ≤ 601024; omega, by show slots + 12 ≤ 7293034; omega⟩) hS (fun q _ h => h) (fun q h => h) (fun k1 w t H locs ht hvm hMk hB hsz hk1 hS => ?_)
  rw [ht] at hB
  obtain ⟨hP, hD⟩ := hB
  obtain ⟨⟨vs12, h12⟩, hR⟩ := hM k1 w hMk
  refine lv_istore (lv' := [(6, .int k1), (0, .ref b), (1, .ref v), (2, .ref am), (3, .ref oj), (4, .ref od), (5, .int x5)]) hx hb dL_law_1323 hl (by decide) rfl (fun ls hl => ?_)
  refine lv_aload_n hx hb dL_law_1325 rfl (lv_at hl 3 rfl) ?_
  refine lv_aload_n hx hb dL_law_1326 rfl (lv_at hl 1 rfl) ?_
  refine lv_iload hx hb dL_law_1327 (lv_at hl 6 rfl) ?_
  refine lv_iconst (v := 1) hx hb dL_law_1329 (by decide) ?_
  refine lv_iadd hx hb dL_law_1330 ?_
  refine va_sld hx hb hX hbl hbA hS g1 dL_law_1331 ?_
  refine re_i ea1.symm ?_
  refine lv_aload_n hx hb dL_law_1332 rfl (lv_at hl 1 rfl) ?_
  refine lv_iload hx hb dL_law_1333 (lv_at hl 6 rfl) ?_
  refine lv_iconst (v := 2) hx hb dL_law_1335 (by decide) ?_
  refine lv_iadd hx hb dL_law_1336 ?_
  refine va_sld hx hb hX hbl hbA hS g2 dL_law_1337 ?_
  refine re_i ea2.symm ?_
  refine va_callv (va_runV (As := [.int a1, .int a2]) (rest := []) ⟨hx, hb, hml, hown, hts⟩ hR (cwV 2 hts gL_law_X8_margins rfl rfl rfl (by decide +kernel) ⟨Nat.le_of_ble_eq_true rfl, Nat.le_of_ble_eq_true rfl⟩) ⟨pcM_b, va_recv hK hP (ci := 9) (q0 := 12) rfl h12, pcM_u hP hK hD hS hA⟩ rfl rfl hl.1 rfl (lv_room (Nat.le_of_ble_eq_true rfl)) dL_law_1338 ⟨by show cells + 2 + 0 ≤ 601024; omega, by show slots + 12 + 0 ≤ 7293034; omega⟩) hS (fun q _ h => h) (fun q h => h) (fun w2 t H locs ht hvm hE2 hB hsz hk1 hS => ?_)
  rw [ht] at hB
  obtain ⟨hP, hD⟩ := hB
  obtain ⟨⟨ad, z, wi, dm, hm, hz⟩, hI2⟩ := hE2
  refine lv_aload_n hx hb dL_law_1341 rfl (lv_at hl 3 rfl) ?_
  refine vp_callSi (va_Run.run (va_runV (As := []) (rest := []) ⟨hx, hb, hml, hown, hts⟩ (metX8_thrown l G tys w2 (F := fun _ _ => 0) hm) (cwV 0 hts gL_law_X8_thrown rfl rfl rfl (by decide +kernel) ⟨Nat.le_of_ble_eq_true rfl, Nat.le_of_ble_eq_true rfl⟩) ⟨pcR_b, va_recv hK hP (ci := 9) (q0 := 12) rfl hm, pcR_u hP hK⟩ rfl rfl hl.1 rfl (lv_room (Nat.le_of_ble_eq_true rfl)) dL_law_1342 ⟨by show cells + 2 + 0 ≤ 601024; omega, by show slots + 12 + 0 ≤ 7293034; omega⟩)) (fun r3 h3 => ?_)
  refine lv_iload hx hb dL_law_1345 (lv_at hl 0 rfl) ?_
  refine lv_icmp_eq (tgt := 1352) hx hb dL_law_1347 (by decide) (fun c1 => ?_) (fun c1 => absurd (h3.trans hz) c1)
  refine lv_goto (tgt := 1803) hx hb dL_law_1352 (by decide) ?_
  refine W.widen (k := cells + 8) (n := slots + 242) (by omega) (by omega) ?_
  exact kk _ _ _ _ hI2 hP hD hS (lv_sub hl [1, 2, 3, 4, 5, 6] rfl)
set_option maxHeartbeats 4000000 in
set_option maxRecDepth 100000 in
theorem case_pulse {p : Program} {l : Launch} {e : Env} {s : State} {m : MethodId} {below : List Frame} {meth : Method} {c : Code} (hnt : l.stackTraces = false) {G : va_G} {tys : List (ClassId × FieldType)} {tE mi : Nat} {cI cO cJ cB : ClassId} (htI : tI tys cI) (htO : tO tys cO) (htJ : tys[2]? = some (cJ, .long)) (htB : tys[3]? = some (cB, .double)) {b L : Nat} {xs : Nat → Int32} (hL : L ≤ 2048) (C0 : lw_At p s m meth c b L xs) {v am oj od : Nat} (hK : va_K G vwCl tys s) (hE : env (fun q : Nat => s.heap.size ≤ q) tE mi s s.heap) {ws : va_W} {H : Heap} {locs : List Loc} {i : Nat} {x5 : Int32} {cells slots : Nat} {Q : State → Prop} {ls : Array Slot} (hi : i + 3 < L) (e5 : x5 = nI i) (hI : INV cI cO cJ cB tE v am oj od ws) (hP : va_P G vwCl ws H) (hD : va_D (fun q : Nat => s.heap.size ≤ q) ws) (hS : va_S (fun q : Nat => s.heap.size ≤ q) s.heap H locs) (hl : lv_has ls 10 [(0, .ref b), (1, .ref v), (2, .ref am), (3, .ref oj), (4, .ref od), (5, .int x5)]) (hc : cells + 8 ≤ 601024) (hs : slots + 242 ≤ 7293034) (kk : ∀ (w : va_W) (H1 : Heap) (locs1 : List Loc) (ls1 : Array Slot), INV cI cO cJ cB tE v am oj od w → va_P G vwCl w H1 → va_D (fun q : Nat => s.heap.size ≤ q) w → va_S (fun q : Nat => s.heap.size ≤ q) s.heap H1 locs1 → lv_has ls1 10 [(0, .ref b), (1, .ref v), (2, .ref am), (3, .ref oj), (4, .ref od), (5, .int x5)] → W p l e room_1 s m #[Value.ref b] below meth c H1 locs1 (cells + 8) (slots + 242) Q (F0 m 1803 ls1 [])) : W p l e room_1 s m #[Value.ref b] below meth c H locs (cells) (slots) Q (F0 m 1355 ls []) := by
  obtain ⟨hx, hb, hr, hml, hown, hts0, hX, hbl, hlocks, hgv⟩ := C0
  have hts : ∀ w ∈ wsL_law, w.before #[Value.ref b] s = true := fun w h => hts0 w (wsL_law_in w h)
  have hown : s.vm.findClass RL = some m.cls := hown
  have hA : ∀ q : Nat, s.heap.size ≤ q → (fun q : Nat => s.heap.size ≤ q) q := fun _ h => h
  have hbA : ¬ (fun q : Nat => s.heap.size ≤ q) b := Nat.not_le.mpr hbl
  have g1 : vp_in (x5 + 1) L := by rw [e5, show nI i + 1 = nI (i + 1) from nI_add i 1]; exact vp_in_nI (by omega) (by omega)
  obtain ⟨a1, ea1⟩ : ∃ y, y = xs (x5 + 1).toNatClampNeg := ⟨_, rfl⟩
  have g2 : vp_in (x5 + 2) L := by rw [e5, show nI i + 2 = nI (i + 2) from nI_add i 2]; exact vp_in_nI (by omega) (by omega)
  obtain ⟨a2, ea2⟩ : ∃ y, y = xs (x5 + 2).toNatClampNeg := ⟨_, rfl⟩
  obtain ⟨Mid, hH, hM⟩ := sem_pulse (A := (fun q : Nat => s.heap.size ≤ q)) (mi := mi) l hnt G tys htI htO htJ htB hI a1 a2
  refine lv_aload_n hx hb dL_law_1355 rfl (lv_at hl 1 rfl) ?_
  refine lv_aload_n hx hb dL_law_1356 rfl (lv_at hl 0 rfl) ?_
  refine lv_iload hx hb dL_law_1357 (lv_at hl 5 rfl) ?_
  refine lv_iconst (v := 1) hx hb dL_law_1359 (by decide) ?_
  refine lv_iadd hx hb dL_law_1360 ?_
  refine va_sld hx hb hX hbl hbA hS g1 dL_law_1361 ?_
  refine re_i ea1.symm ?_
  refine lv_aload_n hx hb dL_law_1362 rfl (lv_at hl 0 rfl) ?_
  refine lv_iload hx hb dL_law_1363 (lv_at hl 5 rfl) ?_
  refine lv_iconst (v := 2) hx hb dL_law_1365 (by decide) ?_
  refine lv_iadd hx hb dL_law_1366 ?_
  refine va_sld hx hb hX hbl hbA hS g2 dL_law_1367 ?_
  refine re_i ea2.symm ?_
  refine lv_aload_n hx hb dL_law_1368 rfl (lv_at hl 3 rfl) ?_
  refine va_calli (vx_runSW (As := [.ref v, .int a1, .int a2, .ref oj]) (rest := []) ⟨hx, hb, hml, hown, hts⟩ hH (vx_cwSW 4 hts gL_law_L_pulse rfl rfl rfl (by decide +kernel) ⟨Nat.le_of_ble_eq_true rfl, Nat.le_of_ble_eq_true rfl⟩) ⟨pcX_b, pcX_u hP hK hD hS hA hE⟩ rfl rfl hl.1 rfl (lv_room (Nat.le_of_ble_eq_true rfl)) dL_law_1369 ⟨by show cells + 2 ≤ 601024; omega, by show slots + 12 ≤ 7293034; omega⟩) hS (fun q _ h => h) (fun q h => h) (fun k1 w t H locs ht hvm hMk hB hsz hk1 hS => ?_)
  rw [ht] at hB
  obtain ⟨hP, hD⟩ := hB
  obtain ⟨⟨vs12, h12⟩, hR⟩ := hM k1 w hMk
  refine lv_istore (lv' := [(6, .int k1), (0, .ref b), (1, .ref v), (2, .ref am), (3, .ref oj), (4, .ref od), (5, .int x5)]) hx hb dL_law_1372 hl (by decide) rfl (fun ls hl => ?_)
  refine lv_aload_n hx hb dL_law_1374 rfl (lv_at hl 3 rfl) ?_
  refine lv_aload_n hx hb dL_law_1375 rfl (lv_at hl 1 rfl) ?_
  refine lv_iload hx hb dL_law_1376 (lv_at hl 6 rfl) ?_
  refine lv_iconst (v := 1) hx hb dL_law_1378 (by decide) ?_
  refine lv_iadd hx hb dL_law_1379 ?_
  refine va_sld hx hb hX hbl hbA hS g1 dL_law_1380 ?_
  refine re_i ea1.symm ?_
  refine lv_aload_n hx hb dL_law_1381 rfl (lv_at hl 1 rfl) ?_
  refine lv_iload hx hb dL_law_1382 (lv_at hl 6 rfl) ?_
  refine lv_iconst (v := 2) hx hb dL_law_1384 (by decide) ?_
  refine lv_iadd hx hb dL_law_1385 ?_
  refine va_sld hx hb hX hbl hbA hS g2 dL_law_1386 ?_
  refine re_i ea2.symm ?_
  refine va_calli (va_runV (As := [.int a1, .int a2]) (rest := []) ⟨hx, hb, hml, hown, hts⟩ hR (cwV 2 hts gL_law_X8_pulse rfl rfl rfl (by decide +kernel) ⟨Nat.le_of_ble_eq_true rfl, Nat.le_of_ble_eq_true rfl⟩) ⟨pcM_b, va_recv hK hP (ci := 9) (q0 := 12) rfl h12, pcM_u hP hK hD hS hA⟩ rfl rfl hl.1 rfl (lv_room (Nat.le_of_ble_eq_true rfl)) dL_law_1387 ⟨by show cells + 2 + 0 ≤ 601024; omega, by show slots + 12 + 0 ≤ 7293034; omega⟩) hS (fun q _ h => h) (fun q h => h) (fun r2 w2 t H locs ht hvm hE2 hB hsz hk1 hS => ?_)
  rw [ht] at hB
  obtain ⟨hP, hD⟩ := hB
  obtain ⟨⟨ad, z, wi, dm, hm, hz⟩, hou, hI2⟩ := hE2
  refine lv_istore (lv' := [(7, .int r2), (6, .int k1), (0, .ref b), (1, .ref v), (2, .ref am), (3, .ref oj), (4, .ref od), (5, .int x5)]) hx hb dL_law_1390 hl (by decide) rfl (fun ls hl => ?_)
  refine lv_aload_n hx hb dL_law_1392 rfl (lv_at hl 4 rfl) ?_
  refine vp_callSi (va_Run.run (va_runV (As := []) (rest := []) ⟨hx, hb, hml, hown, hts⟩ (metX8_thrown l G tys w2 (F := fun _ _ => 0) hm) (cwV 0 hts gL_law_X8_thrown rfl rfl rfl (by decide +kernel) ⟨Nat.le_of_ble_eq_true rfl, Nat.le_of_ble_eq_true rfl⟩) ⟨pcR_b, va_recv hK hP (ci := 9) (q0 := 12) rfl hm, pcR_u hP hK⟩ rfl rfl hl.1 rfl (lv_room (Nat.le_of_ble_eq_true rfl)) dL_law_1393 ⟨by show cells + 2 + 0 ≤ 601024; omega, by show slots + 12 + 0 ≤ 7293034; omega⟩)) (fun r3 h3 => ?_)
  refine lv_iload hx hb dL_law_1396 (lv_at hl 1 rfl) ?_
  refine lv_icmp_eq (tgt := 1403) hx hb dL_law_1398 (by decide) (fun c1 => ?_) (fun c1 => absurd (h3.trans hz) c1)
  refine lv_iload hx hb dL_law_1403 (lv_at hl 1 rfl) ?_
  refine lv_if_ne (tgt := 1420) hx hb dL_law_1405 (by decide) (fun c2 => ?_) (fun c2 => ?_)
  · refine lv_goto (tgt := 1803) hx hb dL_law_1420 (by decide) ?_
    refine W.widen (k := cells + 8) (n := slots + 242) (by omega) (by omega) ?_
    exact kk _ _ _ _ hI2 hP hD hS (lv_sub hl [2, 3, 4, 5, 6, 7] rfl)
  · obtain ⟨f, hf, hf0⟩ := hou c2
    refine lv_aload_n hx hb dL_law_1408 rfl (lv_at hl 5 rfl) ?_
    refine lv_iconst (v := 0) hx hb dL_law_1409 (by decide) ?_
    refine va_lald hx hb hK hP 36 2 hf htJ in01 dL_law_1410 ?_
    refine re_l (show f (0 : Int32).toNatClampNeg = r2.toInt64 from hf0) ?_
    refine lv_iload hx hb dL_law_1411 (lv_at hl 0 rfl) ?_
    refine lv_i2l hx hb dL_law_1413 rfl ?_
    refine W.lcmp hx hb dL_law_1414 ?_
    refine re_i (lg_cmp_self _) ?_
    refine lv_if_eq (tgt := 1420) hx hb dL_law_1415 (by decide) (fun _ => ?_) (fun c3 => absurd rfl c3)
    refine lv_goto (tgt := 1803) hx hb dL_law_1420 (by decide) ?_
    refine W.widen (k := cells + 8) (n := slots + 242) (by omega) (by omega) ?_
    exact kk _ _ _ _ hI2 hP hD hS (lv_sub hl [2, 3, 4, 5, 6, 7] rfl)
set_option maxHeartbeats 4000000 in
set_option maxRecDepth 100000 in
theorem case_bit {p : Program} {l : Launch} {e : Env} {s : State} {m : MethodId} {below : List Frame} {meth : Method} {c : Code} (hnt : l.stackTraces = false) {G : va_G} {tys : List (ClassId × FieldType)} {tE mi : Nat} {cI cO cJ cB : ClassId} (htI : tI tys cI) (htO : tO tys cO) (htJ : tys[2]? = some (cJ, .long)) (htB : tys[3]? = some (cB, .double)) {b L : Nat} {xs : Nat → Int32} (hL : L ≤ 2048) (C0 : lw_At p s m meth c b L xs) {v am oj od : Nat} (hK : va_K G vwCl tys s) (hE : env (fun q : Nat => s.heap.size ≤ q) tE mi s s.heap) {ws : va_W} {H : Heap} {locs : List Loc} {i : Nat} {x5 : Int32} {cells slots : Nat} {Q : State → Prop} {ls : Array Slot} (hi : i + 3 < L) (e5 : x5 = nI i) (hI : INV cI cO cJ cB tE v am oj od ws) (hP : va_P G vwCl ws H) (hD : va_D (fun q : Nat => s.heap.size ≤ q) ws) (hS : va_S (fun q : Nat => s.heap.size ≤ q) s.heap H locs) (hl : lv_has ls 10 [(0, .ref b), (1, .ref v), (2, .ref am), (3, .ref oj), (4, .ref od), (5, .int x5)]) (hc : cells + 8 ≤ 601024) (hs : slots + 242 ≤ 7293034) (kk : ∀ (w : va_W) (H1 : Heap) (locs1 : List Loc) (ls1 : Array Slot), INV cI cO cJ cB tE v am oj od w → va_P G vwCl w H1 → va_D (fun q : Nat => s.heap.size ≤ q) w → va_S (fun q : Nat => s.heap.size ≤ q) s.heap H1 locs1 → lv_has ls1 10 [(0, .ref b), (1, .ref v), (2, .ref am), (3, .ref oj), (4, .ref od), (5, .int x5)] → W p l e room_1 s m #[Value.ref b] below meth c H1 locs1 (cells + 8) (slots + 242) Q (F0 m 1803 ls1 [])) : W p l e room_1 s m #[Value.ref b] below meth c H locs (cells) (slots) Q (F0 m 1423 ls []) := by
  obtain ⟨hx, hb, hr, hml, hown, hts0, hX, hbl, hlocks, hgv⟩ := C0
  have hts : ∀ w ∈ wsL_law, w.before #[Value.ref b] s = true := fun w h => hts0 w (wsL_law_in w h)
  have hown : s.vm.findClass RL = some m.cls := hown
  have hA : ∀ q : Nat, s.heap.size ≤ q → (fun q : Nat => s.heap.size ≤ q) q := fun _ h => h
  have hbA : ¬ (fun q : Nat => s.heap.size ≤ q) b := Nat.not_le.mpr hbl
  have g1 : vp_in (x5 + 1) L := by rw [e5, show nI i + 1 = nI (i + 1) from nI_add i 1]; exact vp_in_nI (by omega) (by omega)
  obtain ⟨a1, ea1⟩ : ∃ y, y = xs (x5 + 1).toNatClampNeg := ⟨_, rfl⟩
  obtain ⟨Mid, hH, hM⟩ := sem_bit (A := (fun q : Nat => s.heap.size ≤ q)) (mi := mi) l hnt G tys htI htO htJ htB hI a1
  refine lv_aload_n hx hb dL_law_1423 rfl (lv_at hl 1 rfl) ?_
  refine lv_aload_n hx hb dL_law_1424 rfl (lv_at hl 0 rfl) ?_
  refine lv_iload hx hb dL_law_1425 (lv_at hl 5 rfl) ?_
  refine lv_iconst (v := 1) hx hb dL_law_1427 (by decide) ?_
  refine lv_iadd hx hb dL_law_1428 ?_
  refine va_sld hx hb hX hbl hbA hS g1 dL_law_1429 ?_
  refine re_i ea1.symm ?_
  refine lv_aload_n hx hb dL_law_1430 rfl (lv_at hl 3 rfl) ?_
  refine va_calli (vx_runSW (As := [.ref v, .int a1, .ref oj]) (rest := []) ⟨hx, hb, hml, hown, hts⟩ hH (vx_cwSW 3 hts gL_law_L_bit rfl rfl rfl (by decide +kernel) ⟨Nat.le_of_ble_eq_true rfl, Nat.le_of_ble_eq_true rfl⟩) ⟨pcX_b, pcX_u hP hK hD hS hA hE⟩ rfl rfl hl.1 rfl (lv_room (Nat.le_of_ble_eq_true rfl)) dL_law_1431 ⟨by show cells + 1 ≤ 601024; omega, by show slots + 6 ≤ 7293034; omega⟩) hS (fun q _ h => h) (fun q h => h) (fun k1 w t H locs ht hvm hMk hB hsz hk1 hS => ?_)
  rw [ht] at hB
  obtain ⟨hP, hD⟩ := hB
  obtain ⟨⟨vs12, h12⟩, hR⟩ := hM k1 w hMk
  refine lv_istore (lv' := [(6, .int k1), (0, .ref b), (1, .ref v), (2, .ref am), (3, .ref oj), (4, .ref od), (5, .int x5)]) hx hb dL_law_1434 hl (by decide) rfl (fun ls hl => ?_)
  refine lv_aload_n hx hb dL_law_1436 rfl (lv_at hl 3 rfl) ?_
  refine lv_aload_n hx hb dL_law_1437 rfl (lv_at hl 1 rfl) ?_
  refine lv_iload hx hb dL_law_1438 (lv_at hl 6 rfl) ?_
  refine lv_iconst (v := 1) hx hb dL_law_1440 (by decide) ?_
  refine lv_iadd hx hb dL_law_1441 ?_
  refine va_sld hx hb hX hbl hbA hS g1 dL_law_1442 ?_
  refine re_i ea1.symm ?_
  refine va_calli (va_runV (As := [.int a1]) (rest := []) ⟨hx, hb, hml, hown, hts⟩ hR (cwV 1 hts gL_law_X8_bit rfl rfl rfl (by decide +kernel) ⟨Nat.le_of_ble_eq_true rfl, Nat.le_of_ble_eq_true rfl⟩) ⟨pcM_b, va_recv hK hP (ci := 9) (q0 := 12) rfl h12, pcM_u hP hK hD hS hA⟩ rfl rfl hl.1 rfl (lv_room (Nat.le_of_ble_eq_true rfl)) dL_law_1443 ⟨by show cells + 1 + 0 ≤ 601024; omega, by show slots + 6 + 0 ≤ 7293034; omega⟩) hS (fun q _ h => h) (fun q h => h) (fun r2 w2 t H locs ht hvm hE2 hB hsz hk1 hS => ?_)
  rw [ht] at hB
  obtain ⟨hP, hD⟩ := hB
  obtain ⟨⟨ad, z, wi, dm, hm, hz⟩, hou, hI2⟩ := hE2
  refine lv_istore (lv' := [(7, .int r2), (6, .int k1), (0, .ref b), (1, .ref v), (2, .ref am), (3, .ref oj), (4, .ref od), (5, .int x5)]) hx hb dL_law_1446 hl (by decide) rfl (fun ls hl => ?_)
  refine lv_aload_n hx hb dL_law_1448 rfl (lv_at hl 4 rfl) ?_
  refine vp_callSi (va_Run.run (va_runV (As := []) (rest := []) ⟨hx, hb, hml, hown, hts⟩ (metX8_thrown l G tys w2 (F := fun _ _ => 0) hm) (cwV 0 hts gL_law_X8_thrown rfl rfl rfl (by decide +kernel) ⟨Nat.le_of_ble_eq_true rfl, Nat.le_of_ble_eq_true rfl⟩) ⟨pcR_b, va_recv hK hP (ci := 9) (q0 := 12) rfl hm, pcR_u hP hK⟩ rfl rfl hl.1 rfl (lv_room (Nat.le_of_ble_eq_true rfl)) dL_law_1449 ⟨by show cells + 1 + 0 ≤ 601024; omega, by show slots + 6 + 0 ≤ 7293034; omega⟩)) (fun r3 h3 => ?_)
  refine lv_iload hx hb dL_law_1452 (lv_at hl 1 rfl) ?_
  refine lv_icmp_eq (tgt := 1459) hx hb dL_law_1454 (by decide) (fun c1 => ?_) (fun c1 => absurd (h3.trans hz) c1)
  refine lv_iload hx hb dL_law_1459 (lv_at hl 1 rfl) ?_
  refine lv_if_ne (tgt := 1476) hx hb dL_law_1461 (by decide) (fun c2 => ?_) (fun c2 => ?_)
  · refine lv_goto (tgt := 1803) hx hb dL_law_1476 (by decide) ?_
    refine W.widen (k := cells + 8) (n := slots + 242) (by omega) (by omega) ?_
    exact kk _ _ _ _ hI2 hP hD hS (lv_sub hl [2, 3, 4, 5, 6, 7] rfl)
  · obtain ⟨f, hf, hf0⟩ := hou c2
    refine lv_aload_n hx hb dL_law_1464 rfl (lv_at hl 5 rfl) ?_
    refine lv_iconst (v := 0) hx hb dL_law_1465 (by decide) ?_
    refine va_lald hx hb hK hP 36 2 hf htJ in01 dL_law_1466 ?_
    refine re_l (show f (0 : Int32).toNatClampNeg = r2.toInt64 from hf0) ?_
    refine lv_iload hx hb dL_law_1467 (lv_at hl 0 rfl) ?_
    refine lv_i2l hx hb dL_law_1469 rfl ?_
    refine W.lcmp hx hb dL_law_1470 ?_
    refine re_i (lg_cmp_self _) ?_
    refine lv_if_eq (tgt := 1476) hx hb dL_law_1471 (by decide) (fun _ => ?_) (fun c3 => absurd rfl c3)
    refine lv_goto (tgt := 1803) hx hb dL_law_1476 (by decide) ?_
    refine W.widen (k := cells + 8) (n := slots + 242) (by omega) (by omega) ?_
    exact kk _ _ _ _ hI2 hP hD hS (lv_sub hl [2, 3, 4, 5, 6, 7] rfl)
set_option maxHeartbeats 4000000 in
set_option maxRecDepth 100000 in
theorem case_point {p : Program} {l : Launch} {e : Env} {s : State} {m : MethodId} {below : List Frame} {meth : Method} {c : Code} (hnt : l.stackTraces = false) {G : va_G} {tys : List (ClassId × FieldType)} {tE mi : Nat} {cI cO cJ cB : ClassId} (htI : tI tys cI) (htO : tO tys cO) (htJ : tys[2]? = some (cJ, .long)) (htB : tys[3]? = some (cB, .double)) {b L : Nat} {xs : Nat → Int32} (hL : L ≤ 2048) (C0 : lw_At p s m meth c b L xs) {v am oj od : Nat} (hK : va_K G vwCl tys s) (hE : env (fun q : Nat => s.heap.size ≤ q) tE mi s s.heap) {ws : va_W} {H : Heap} {locs : List Loc} {i : Nat} {x5 : Int32} {cells slots : Nat} {Q : State → Prop} {ls : Array Slot} (hi : i + 3 < L) (e5 : x5 = nI i) (hI : INV cI cO cJ cB tE v am oj od ws) (hP : va_P G vwCl ws H) (hD : va_D (fun q : Nat => s.heap.size ≤ q) ws) (hS : va_S (fun q : Nat => s.heap.size ≤ q) s.heap H locs) (hl : lv_has ls 10 [(0, .ref b), (1, .ref v), (2, .ref am), (3, .ref oj), (4, .ref od), (5, .int x5)]) (hc : cells + 8 ≤ 601024) (hs : slots + 242 ≤ 7293034) (kk : ∀ (w : va_W) (H1 : Heap) (locs1 : List Loc) (ls1 : Array Slot), INV cI cO cJ cB tE v am oj od w → va_P G vwCl w H1 → va_D (fun q : Nat => s.heap.size ≤ q) w → va_S (fun q : Nat => s.heap.size ≤ q) s.heap H1 locs1 → lv_has ls1 10 [(0, .ref b), (1, .ref v), (2, .ref am), (3, .ref oj), (4, .ref od), (5, .int x5)] → W p l e room_1 s m #[Value.ref b] below meth c H1 locs1 (cells + 8) (slots + 242) Q (F0 m 1803 ls1 [])) : W p l e room_1 s m #[Value.ref b] below meth c H locs (cells) (slots) Q (F0 m 1479 ls []) := by
  obtain ⟨hx, hb, hr, hml, hown, hts0, hX, hbl, hlocks, hgv⟩ := C0
  have hts : ∀ w ∈ wsL_law, w.before #[Value.ref b] s = true := fun w h => hts0 w (wsL_law_in w h)
  have hown : s.vm.findClass RL = some m.cls := hown
  have hA : ∀ q : Nat, s.heap.size ≤ q → (fun q : Nat => s.heap.size ≤ q) q := fun _ h => h
  have hbA : ¬ (fun q : Nat => s.heap.size ≤ q) b := Nat.not_le.mpr hbl
  have g1 : vp_in (x5 + 1) L := by rw [e5, show nI i + 1 = nI (i + 1) from nI_add i 1]; exact vp_in_nI (by omega) (by omega)
  obtain ⟨a1, ea1⟩ : ∃ y, y = xs (x5 + 1).toNatClampNeg := ⟨_, rfl⟩
  have g2 : vp_in (x5 + 2) L := by rw [e5, show nI i + 2 = nI (i + 2) from nI_add i 2]; exact vp_in_nI (by omega) (by omega)
  obtain ⟨a2, ea2⟩ : ∃ y, y = xs (x5 + 2).toNatClampNeg := ⟨_, rfl⟩
  have g3 : vp_in (x5 + 3) L := by rw [e5, show nI i + 3 = nI (i + 3) from nI_add i 3]; exact vp_in_nI (by omega) (by omega)
  obtain ⟨a3, ea3⟩ : ∃ y, y = xs (x5 + 3).toNatClampNeg := ⟨_, rfl⟩
  obtain ⟨Mid, hH, hM⟩ := sem_point (A := (fun q : Nat => s.heap.size ≤ q)) (mi := mi) l hnt G tys htI htO htJ htB hI a1 a2 a3
  refine lv_aload_n hx hb dL_law_1479 rfl (lv_at hl 1 rfl) ?_
  refine lv_aload_n hx hb dL_law_1480 rfl (lv_at hl 0 rfl) ?_
  refine lv_iload hx hb dL_law_1481 (lv_at hl 5 rfl) ?_
  refine lv_iconst (v := 1) hx hb dL_law_1483 (by decide) ?_
  refine lv_iadd hx hb dL_law_1484 ?_
  refine va_sld hx hb hX hbl hbA hS g1 dL_law_1485 ?_
  refine re_i ea1.symm ?_
  refine lv_aload_n hx hb dL_law_1486 rfl (lv_at hl 0 rfl) ?_
  refine lv_iload hx hb dL_law_1487 (lv_at hl 5 rfl) ?_
  refine lv_iconst (v := 2) hx hb dL_law_1489 (by decide) ?_
  refine lv_iadd hx hb dL_law_1490 ?_
  refine va_sld hx hb hX hbl hbA hS g2 dL_law_1491 ?_
  refine re_i ea2.symm ?_
  refine lv_aload_n hx hb dL_law_1492 rfl (lv_at hl 0 rfl) ?_
  refine lv_iload hx hb dL_law_1493 (lv_at hl 5 rfl) ?_
  refine lv_iconst (v := 3) hx hb dL_law_1495 (by decide) ?_
  refine lv_iadd hx hb dL_law_1496 ?_
  refine va_sld hx hb hX hbl hbA hS g3 dL_law_1497 ?_
  refine re_i ea3.symm ?_
  refine lv_aload_n hx hb dL_law_1498 rfl (lv_at hl 3 rfl) ?_
  refine va_calli (vx_runSW (As := [.ref v, .int a1, .int a2, .int a3, .ref oj]) (rest := []) ⟨hx, hb, hml, hown, hts⟩ hH (vx_cwSW 5 hts gL_law_L_point rfl rfl rfl (by decide +kernel) ⟨Nat.le_of_ble_eq_true rfl, Nat.le_of_ble_eq_true rfl⟩) ⟨pcX_b, pcX_u hP hK hD hS hA hE⟩ rfl rfl hl.1 rfl (lv_room (Nat.le_of_ble_eq_true rfl)) dL_law_1499 ⟨by show cells + 6 ≤ 601024; omega, by show slots + 227 ≤ 7293034; omega⟩) hS (fun q _ h => h) (fun q h => h) (fun k1 w t H locs ht hvm hMk hB hsz hk1 hS => ?_)
  rw [ht] at hB
  obtain ⟨hP, hD⟩ := hB
  obtain ⟨⟨vs12, h12⟩, hR⟩ := hM k1 w hMk
  refine lv_istore (lv' := [(6, .int k1), (0, .ref b), (1, .ref v), (2, .ref am), (3, .ref oj), (4, .ref od), (5, .int x5)]) hx hb dL_law_1502 hl (by decide) rfl (fun ls hl => ?_)
  refine lv_aload_n hx hb dL_law_1504 rfl (lv_at hl 3 rfl) ?_
  refine lv_aload_n hx hb dL_law_1505 rfl (lv_at hl 1 rfl) ?_
  refine lv_iload hx hb dL_law_1506 (lv_at hl 6 rfl) ?_
  refine lv_iconst (v := 1) hx hb dL_law_1508 (by decide) ?_
  refine lv_iadd hx hb dL_law_1509 ?_
  refine va_sld hx hb hX hbl hbA hS g1 dL_law_1510 ?_
  refine re_i ea1.symm ?_
  refine lv_aload_n hx hb dL_law_1511 rfl (lv_at hl 1 rfl) ?_
  refine lv_iload hx hb dL_law_1512 (lv_at hl 6 rfl) ?_
  refine lv_iconst (v := 2) hx hb dL_law_1514 (by decide) ?_
  refine lv_iadd hx hb dL_law_1515 ?_
  refine va_sld hx hb hX hbl hbA hS g2 dL_law_1516 ?_
  refine re_i ea2.symm ?_
  refine lv_aload_n hx hb dL_law_1517 rfl (lv_at hl 1 rfl) ?_
  refine lv_iload hx hb dL_law_1518 (lv_at hl 6 rfl) ?_
  refine lv_iconst (v := 3) hx hb dL_law_1520 (by decide) ?_
  refine lv_iadd hx hb dL_law_1521 ?_
  refine va_sld hx hb hX hbl hbA hS g3 dL_law_1522 ?_
  refine re_i ea3.symm ?_
  refine va_calli (va_runV (As := [.int a1, .int a2, .int a3]) (rest := []) ⟨hx, hb, hml, hown, hts⟩ hR (cwV 3 hts gL_law_X8_point rfl rfl rfl (by decide +kernel) ⟨Nat.le_of_ble_eq_true rfl, Nat.le_of_ble_eq_true rfl⟩) ⟨pcM_b, va_recv hK hP (ci := 9) (q0 := 12) rfl h12, pcM_u hP hK hD hS hA⟩ rfl rfl hl.1 rfl (lv_room (Nat.le_of_ble_eq_true rfl)) dL_law_1523 ⟨by show cells + 6 + 0 ≤ 601024; omega, by show slots + 227 + 0 ≤ 7293034; omega⟩) hS (fun q _ h => h) (fun q h => h) (fun r2 w2 t H locs ht hvm hE2 hB hsz hk1 hS => ?_)
  rw [ht] at hB
  obtain ⟨hP, hD⟩ := hB
  obtain ⟨⟨ad, z, wi, dm, hm, hz⟩, hou, hI2⟩ := hE2
  refine lv_istore (lv' := [(7, .int r2), (6, .int k1), (0, .ref b), (1, .ref v), (2, .ref am), (3, .ref oj), (4, .ref od), (5, .int x5)]) hx hb dL_law_1526 hl (by decide) rfl (fun ls hl => ?_)
  refine lv_aload_n hx hb dL_law_1528 rfl (lv_at hl 4 rfl) ?_
  refine vp_callSi (va_Run.run (va_runV (As := []) (rest := []) ⟨hx, hb, hml, hown, hts⟩ (metX8_thrown l G tys w2 (F := fun _ _ => 0) hm) (cwV 0 hts gL_law_X8_thrown rfl rfl rfl (by decide +kernel) ⟨Nat.le_of_ble_eq_true rfl, Nat.le_of_ble_eq_true rfl⟩) ⟨pcR_b, va_recv hK hP (ci := 9) (q0 := 12) rfl hm, pcR_u hP hK⟩ rfl rfl hl.1 rfl (lv_room (Nat.le_of_ble_eq_true rfl)) dL_law_1529 ⟨by show cells + 6 + 0 ≤ 601024; omega, by show slots + 227 + 0 ≤ 7293034; omega⟩)) (fun r3 h3 => ?_)
  refine lv_iload hx hb dL_law_1532 (lv_at hl 1 rfl) ?_
  refine lv_icmp_eq (tgt := 1539) hx hb dL_law_1534 (by decide) (fun c1 => ?_) (fun c1 => absurd (h3.trans hz) c1)
  refine lv_iload hx hb dL_law_1539 (lv_at hl 1 rfl) ?_
  refine lv_if_ne (tgt := 1556) hx hb dL_law_1541 (by decide) (fun c2 => ?_) (fun c2 => ?_)
  · refine lv_goto (tgt := 1803) hx hb dL_law_1556 (by decide) ?_
    refine W.widen (k := cells + 8) (n := slots + 242) (by omega) (by omega) ?_
    exact kk _ _ _ _ hI2 hP hD hS (lv_sub hl [2, 3, 4, 5, 6, 7] rfl)
  · obtain ⟨f, hf, hf0⟩ := hou c2
    refine lv_aload_n hx hb dL_law_1544 rfl (lv_at hl 5 rfl) ?_
    refine lv_iconst (v := 0) hx hb dL_law_1545 (by decide) ?_
    refine va_lald hx hb hK hP 36 2 hf htJ in01 dL_law_1546 ?_
    refine re_l (show f (0 : Int32).toNatClampNeg = r2.toInt64 from hf0) ?_
    refine lv_iload hx hb dL_law_1547 (lv_at hl 0 rfl) ?_
    refine lv_i2l hx hb dL_law_1549 rfl ?_
    refine W.lcmp hx hb dL_law_1550 ?_
    refine re_i (lg_cmp_self _) ?_
    refine lv_if_eq (tgt := 1556) hx hb dL_law_1551 (by decide) (fun _ => ?_) (fun c3 => absurd rfl c3)
    refine lv_goto (tgt := 1803) hx hb dL_law_1556 (by decide) ?_
    refine W.widen (k := cells + 8) (n := slots + 242) (by omega) (by omega) ?_
    exact kk _ _ _ _ hI2 hP hD hS (lv_sub hl [2, 3, 4, 5, 6, 7] rfl)
set_option maxHeartbeats 4000000 in
set_option maxRecDepth 100000 in
theorem case_claim {p : Program} {l : Launch} {e : Env} {s : State} {m : MethodId} {below : List Frame} {meth : Method} {c : Code} (hnt : l.stackTraces = false) {G : va_G} {tys : List (ClassId × FieldType)} {tE mi : Nat} {cI cO cJ cB : ClassId} (htI : tI tys cI) (htO : tO tys cO) (htJ : tys[2]? = some (cJ, .long)) (htB : tys[3]? = some (cB, .double)) {b L : Nat} {xs : Nat → Int32} (hL : L ≤ 2048) (C0 : lw_At p s m meth c b L xs) {v am oj od : Nat} (hK : va_K G vwCl tys s) (hE : env (fun q : Nat => s.heap.size ≤ q) tE mi s s.heap) {ws : va_W} {H : Heap} {locs : List Loc} {i : Nat} {x5 : Int32} {cells slots : Nat} {Q : State → Prop} {ls : Array Slot} (hi : i + 3 < L) (e5 : x5 = nI i) (hI : INV cI cO cJ cB tE v am oj od ws) (hP : va_P G vwCl ws H) (hD : va_D (fun q : Nat => s.heap.size ≤ q) ws) (hS : va_S (fun q : Nat => s.heap.size ≤ q) s.heap H locs) (hl : lv_has ls 10 [(0, .ref b), (1, .ref v), (2, .ref am), (3, .ref oj), (4, .ref od), (5, .int x5)]) (hc : cells + 8 ≤ 601024) (hs : slots + 242 ≤ 7293034) (kk : ∀ (w : va_W) (H1 : Heap) (locs1 : List Loc) (ls1 : Array Slot), INV cI cO cJ cB tE v am oj od w → va_P G vwCl w H1 → va_D (fun q : Nat => s.heap.size ≤ q) w → va_S (fun q : Nat => s.heap.size ≤ q) s.heap H1 locs1 → lv_has ls1 10 [(0, .ref b), (1, .ref v), (2, .ref am), (3, .ref oj), (4, .ref od), (5, .int x5)] → W p l e room_1 s m #[Value.ref b] below meth c H1 locs1 (cells + 8) (slots + 242) Q (F0 m 1803 ls1 [])) : W p l e room_1 s m #[Value.ref b] below meth c H locs (cells) (slots) Q (F0 m 1559 ls []) := by
  obtain ⟨hx, hb, hr, hml, hown, hts0, hX, hbl, hlocks, hgv⟩ := C0
  have hts : ∀ w ∈ wsL_law, w.before #[Value.ref b] s = true := fun w h => hts0 w (wsL_law_in w h)
  have hown : s.vm.findClass RL = some m.cls := hown
  have hA : ∀ q : Nat, s.heap.size ≤ q → (fun q : Nat => s.heap.size ≤ q) q := fun _ h => h
  have hbA : ¬ (fun q : Nat => s.heap.size ≤ q) b := Nat.not_le.mpr hbl
  have g1 : vp_in (x5 + 1) L := by rw [e5, show nI i + 1 = nI (i + 1) from nI_add i 1]; exact vp_in_nI (by omega) (by omega)
  obtain ⟨a1, ea1⟩ : ∃ y, y = xs (x5 + 1).toNatClampNeg := ⟨_, rfl⟩
  have g2 : vp_in (x5 + 2) L := by rw [e5, show nI i + 2 = nI (i + 2) from nI_add i 2]; exact vp_in_nI (by omega) (by omega)
  obtain ⟨a2, ea2⟩ : ∃ y, y = xs (x5 + 2).toNatClampNeg := ⟨_, rfl⟩
  have g3 : vp_in (x5 + 3) L := by rw [e5, show nI i + 3 = nI (i + 3) from nI_add i 3]; exact vp_in_nI (by omega) (by omega)
  obtain ⟨a3, ea3⟩ : ∃ y, y = xs (x5 + 3).toNatClampNeg := ⟨_, rfl⟩
  obtain ⟨Mid, hH, hM⟩ := sem_claim (A := (fun q : Nat => s.heap.size ≤ q)) (mi := mi) l hnt G tys htI htO htJ htB hI a1 a2 a3
  refine lv_aload_n hx hb dL_law_1559 rfl (lv_at hl 1 rfl) ?_
  refine lv_aload_n hx hb dL_law_1560 rfl (lv_at hl 0 rfl) ?_
  refine lv_iload hx hb dL_law_1561 (lv_at hl 5 rfl) ?_
  refine lv_iconst (v := 1) hx hb dL_law_1563 (by decide) ?_
  refine lv_iadd hx hb dL_law_1564 ?_
  refine va_sld hx hb hX hbl hbA hS g1 dL_law_1565 ?_
  refine re_i ea1.symm ?_
  refine lv_aload_n hx hb dL_law_1566 rfl (lv_at hl 0 rfl) ?_
  refine lv_iload hx hb dL_law_1567 (lv_at hl 5 rfl) ?_
  refine lv_iconst (v := 2) hx hb dL_law_1569 (by decide) ?_
  refine lv_iadd hx hb dL_law_1570 ?_
  refine va_sld hx hb hX hbl hbA hS g2 dL_law_1571 ?_
  refine re_i ea2.symm ?_
  refine lv_aload_n hx hb dL_law_1572 rfl (lv_at hl 0 rfl) ?_
  refine lv_iload hx hb dL_law_1573 (lv_at hl 5 rfl) ?_
  refine lv_iconst (v := 3) hx hb dL_law_1575 (by decide) ?_
  refine lv_iadd hx hb dL_law_1576 ?_
  refine va_sld hx hb hX hbl hbA hS g3 dL_law_1577 ?_
  refine re_i ea3.symm ?_
  refine lv_aload_n hx hb dL_law_1578 rfl (lv_at hl 3 rfl) ?_
  refine va_calli (vx_runSW (As := [.ref v, .int a1, .int a2, .int a3, .ref oj]) (rest := []) ⟨hx, hb, hml, hown, hts⟩ hH (vx_cwSW 5 hts gL_law_L_claim rfl rfl rfl (by decide +kernel) ⟨Nat.le_of_ble_eq_true rfl, Nat.le_of_ble_eq_true rfl⟩) ⟨pcX_b, pcX_u hP hK hD hS hA hE⟩ rfl rfl hl.1 rfl (lv_room (Nat.le_of_ble_eq_true rfl)) dL_law_1579 ⟨by show cells + 8 ≤ 601024; omega, by show slots + 242 ≤ 7293034; omega⟩) hS (fun q _ h => h) (fun q h => h) (fun k1 w t H locs ht hvm hMk hB hsz hk1 hS => ?_)
  rw [ht] at hB
  obtain ⟨hP, hD⟩ := hB
  obtain ⟨⟨vs12, h12⟩, hR⟩ := hM k1 w hMk
  refine lv_istore (lv' := [(6, .int k1), (0, .ref b), (1, .ref v), (2, .ref am), (3, .ref oj), (4, .ref od), (5, .int x5)]) hx hb dL_law_1582 hl (by decide) rfl (fun ls hl => ?_)
  refine lv_aload_n hx hb dL_law_1584 rfl (lv_at hl 3 rfl) ?_
  refine lv_aload_n hx hb dL_law_1585 rfl (lv_at hl 1 rfl) ?_
  refine lv_iload hx hb dL_law_1586 (lv_at hl 6 rfl) ?_
  refine lv_iconst (v := 1) hx hb dL_law_1588 (by decide) ?_
  refine lv_iadd hx hb dL_law_1589 ?_
  refine va_sld hx hb hX hbl hbA hS g1 dL_law_1590 ?_
  refine re_i ea1.symm ?_
  refine lv_aload_n hx hb dL_law_1591 rfl (lv_at hl 1 rfl) ?_
  refine lv_iload hx hb dL_law_1592 (lv_at hl 6 rfl) ?_
  refine lv_iconst (v := 2) hx hb dL_law_1594 (by decide) ?_
  refine lv_iadd hx hb dL_law_1595 ?_
  refine va_sld hx hb hX hbl hbA hS g2 dL_law_1596 ?_
  refine re_i ea2.symm ?_
  refine lv_aload_n hx hb dL_law_1597 rfl (lv_at hl 1 rfl) ?_
  refine lv_iload hx hb dL_law_1598 (lv_at hl 6 rfl) ?_
  refine lv_iconst (v := 3) hx hb dL_law_1600 (by decide) ?_
  refine lv_iadd hx hb dL_law_1601 ?_
  refine va_sld hx hb hX hbl hbA hS g3 dL_law_1602 ?_
  refine re_i ea3.symm ?_
  refine va_calli (va_runV (As := [.int a1, .int a2, .int a3]) (rest := []) ⟨hx, hb, hml, hown, hts⟩ hR (cwV 3 hts gL_law_X8_claim rfl rfl rfl (by decide +kernel) ⟨Nat.le_of_ble_eq_true rfl, Nat.le_of_ble_eq_true rfl⟩) ⟨pcM_b, va_recv hK hP (ci := 9) (q0 := 12) rfl h12, pcM_u hP hK hD hS hA⟩ rfl rfl hl.1 rfl (lv_room (Nat.le_of_ble_eq_true rfl)) dL_law_1603 ⟨by show cells + 8 + 0 ≤ 601024; omega, by show slots + 242 + 0 ≤ 7293034; omega⟩) hS (fun q _ h => h) (fun q h => h) (fun r2 w2 t H locs ht hvm hE2 hB hsz hk1 hS => ?_)
  rw [ht] at hB
  obtain ⟨hP, hD⟩ := hB
  obtain ⟨⟨ad, z, wi, dm, hm, hz⟩, hou, hI2⟩ := hE2
  refine lv_istore (lv' := [(7, .int r2), (6, .int k1), (0, .ref b), (1, .ref v), (2, .ref am), (3, .ref oj), (4, .ref od), (5, .int x5)]) hx hb dL_law_1606 hl (by decide) rfl (fun ls hl => ?_)
  refine lv_aload_n hx hb dL_law_1608 rfl (lv_at hl 4 rfl) ?_
  refine vp_callSi (va_Run.run (va_runV (As := []) (rest := []) ⟨hx, hb, hml, hown, hts⟩ (metX8_thrown l G tys w2 (F := fun _ _ => 0) hm) (cwV 0 hts gL_law_X8_thrown rfl rfl rfl (by decide +kernel) ⟨Nat.le_of_ble_eq_true rfl, Nat.le_of_ble_eq_true rfl⟩) ⟨pcR_b, va_recv hK hP (ci := 9) (q0 := 12) rfl hm, pcR_u hP hK⟩ rfl rfl hl.1 rfl (lv_room (Nat.le_of_ble_eq_true rfl)) dL_law_1609 ⟨by show cells + 8 + 0 ≤ 601024; omega, by show slots + 242 + 0 ≤ 7293034; omega⟩)) (fun r3 h3 => ?_)
  refine lv_iload hx hb dL_law_1612 (lv_at hl 1 rfl) ?_
  refine lv_icmp_eq (tgt := 1619) hx hb dL_law_1614 (by decide) (fun c1 => ?_) (fun c1 => absurd (h3.trans hz) c1)
  refine lv_iload hx hb dL_law_1619 (lv_at hl 1 rfl) ?_
  refine lv_if_ne (tgt := 1636) hx hb dL_law_1621 (by decide) (fun c2 => ?_) (fun c2 => ?_)
  · refine lv_goto (tgt := 1803) hx hb dL_law_1636 (by decide) ?_
    refine W.widen (k := cells + 8) (n := slots + 242) (by omega) (by omega) ?_
    exact kk _ _ _ _ hI2 hP hD hS (lv_sub hl [2, 3, 4, 5, 6, 7] rfl)
  · obtain ⟨f, hf, hf0⟩ := hou c2
    refine lv_aload_n hx hb dL_law_1624 rfl (lv_at hl 5 rfl) ?_
    refine lv_iconst (v := 0) hx hb dL_law_1625 (by decide) ?_
    refine va_lald hx hb hK hP 36 2 hf htJ in01 dL_law_1626 ?_
    refine re_l (show f (0 : Int32).toNatClampNeg = r2.toInt64 from hf0) ?_
    refine lv_iload hx hb dL_law_1627 (lv_at hl 0 rfl) ?_
    refine lv_i2l hx hb dL_law_1629 rfl ?_
    refine W.lcmp hx hb dL_law_1630 ?_
    refine re_i (lg_cmp_self _) ?_
    refine lv_if_eq (tgt := 1636) hx hb dL_law_1631 (by decide) (fun _ => ?_) (fun c3 => absurd rfl c3)
    refine lv_goto (tgt := 1803) hx hb dL_law_1636 (by decide) ?_
    refine W.widen (k := cells + 8) (n := slots + 242) (by omega) (by omega) ?_
    exact kk _ _ _ _ hI2 hP hD hS (lv_sub hl [2, 3, 4, 5, 6, 7] rfl)
set_option maxHeartbeats 4000000 in
set_option maxRecDepth 100000 in
theorem case_repeats {p : Program} {l : Launch} {e : Env} {s : State} {m : MethodId} {below : List Frame} {meth : Method} {c : Code} (hnt : l.stackTraces = false) {G : va_G} {tys : List (ClassId × FieldType)} {tE mi : Nat} {cI cO cJ cB : ClassId} (htI : tI tys cI) (htO : tO tys cO) (htJ : tys[2]? = some (cJ, .long)) (htB : tys[3]? = some (cB, .double)) {b L : Nat} {xs : Nat → Int32} (hL : L ≤ 2048) (C0 : lw_At p s m meth c b L xs) {v am oj od : Nat} (hK : va_K G vwCl tys s) (hE : env (fun q : Nat => s.heap.size ≤ q) tE mi s s.heap) {ws : va_W} {H : Heap} {locs : List Loc} {i : Nat} {x5 : Int32} {cells slots : Nat} {Q : State → Prop} {ls : Array Slot} (hi : i + 3 < L) (e5 : x5 = nI i) (hI : INV cI cO cJ cB tE v am oj od ws) (hP : va_P G vwCl ws H) (hD : va_D (fun q : Nat => s.heap.size ≤ q) ws) (hS : va_S (fun q : Nat => s.heap.size ≤ q) s.heap H locs) (hl : lv_has ls 10 [(0, .ref b), (1, .ref v), (2, .ref am), (3, .ref oj), (4, .ref od), (5, .int x5)]) (hc : cells + 8 ≤ 601024) (hs : slots + 242 ≤ 7293034) (kk : ∀ (w : va_W) (H1 : Heap) (locs1 : List Loc) (ls1 : Array Slot), INV cI cO cJ cB tE v am oj od w → va_P G vwCl w H1 → va_D (fun q : Nat => s.heap.size ≤ q) w → va_S (fun q : Nat => s.heap.size ≤ q) s.heap H1 locs1 → lv_has ls1 10 [(0, .ref b), (1, .ref v), (2, .ref am), (3, .ref oj), (4, .ref od), (5, .int x5)] → W p l e room_1 s m #[Value.ref b] below meth c H1 locs1 (cells + 8) (slots + 242) Q (F0 m 1803 ls1 [])) : W p l e room_1 s m #[Value.ref b] below meth c H locs (cells) (slots) Q (F0 m 1639 ls []) := by
  obtain ⟨hx, hb, hr, hml, hown, hts0, hX, hbl, hlocks, hgv⟩ := C0
  have hts : ∀ w ∈ wsL_law, w.before #[Value.ref b] s = true := fun w h => hts0 w (wsL_law_in w h)
  have hown : s.vm.findClass RL = some m.cls := hown
  have hA : ∀ q : Nat, s.heap.size ≤ q → (fun q : Nat => s.heap.size ≤ q) q := fun _ h => h
  have hbA : ¬ (fun q : Nat => s.heap.size ≤ q) b := Nat.not_le.mpr hbl
  have g1 : vp_in (x5 + 1) L := by rw [e5, show nI i + 1 = nI (i + 1) from nI_add i 1]; exact vp_in_nI (by omega) (by omega)
  obtain ⟨a1, ea1⟩ : ∃ y, y = xs (x5 + 1).toNatClampNeg := ⟨_, rfl⟩
  have g2 : vp_in (x5 + 2) L := by rw [e5, show nI i + 2 = nI (i + 2) from nI_add i 2]; exact vp_in_nI (by omega) (by omega)
  obtain ⟨a2, ea2⟩ : ∃ y, y = xs (x5 + 2).toNatClampNeg := ⟨_, rfl⟩
  have g3 : vp_in (x5 + 3) L := by rw [e5, show nI i + 3 = nI (i + 3) from nI_add i 3]; exact vp_in_nI (by omega) (by omega)
  obtain ⟨a3, ea3⟩ : ∃ y, y = xs (x5 + 3).toNatClampNeg := ⟨_, rfl⟩
  obtain ⟨a4, ea4⟩ : ∃ y : Int32, y = (if a3 = 0 then 0 else 1) := ⟨_, rfl⟩
  obtain ⟨Mid, hH, hM⟩ := sem_repeats (A := (fun q : Nat => s.heap.size ≤ q)) (mi := mi) l hnt G tys htI htO htJ htB hI a1 a2 a4
  refine lv_aload_n hx hb dL_law_1639 rfl (lv_at hl 1 rfl) ?_
  refine lv_aload_n hx hb dL_law_1640 rfl (lv_at hl 0 rfl) ?_
  refine lv_iload hx hb dL_law_1641 (lv_at hl 5 rfl) ?_
  refine lv_iconst (v := 1) hx hb dL_law_1643 (by decide) ?_
  refine lv_iadd hx hb dL_law_1644 ?_
  refine va_sld hx hb hX hbl hbA hS g1 dL_law_1645 ?_
  refine re_i ea1.symm ?_
  refine lv_aload_n hx hb dL_law_1646 rfl (lv_at hl 0 rfl) ?_
  refine lv_iload hx hb dL_law_1647 (lv_at hl 5 rfl) ?_
  refine lv_iconst (v := 2) hx hb dL_law_1649 (by decide) ?_
  refine lv_iadd hx hb dL_law_1650 ?_
  refine va_sld hx hb hX hbl hbA hS g2 dL_law_1651 ?_
  refine re_i ea2.symm ?_
  refine lv_aload_n hx hb dL_law_1652 rfl (lv_at hl 0 rfl) ?_
  refine lv_iload hx hb dL_law_1653 (lv_at hl 5 rfl) ?_
  refine lv_iconst (v := 3) hx hb dL_law_1655 (by decide) ?_
  refine lv_iadd hx hb dL_law_1656 ?_
  refine va_sld hx hb hX hbl hbA hS g3 dL_law_1657 ?_
  refine re_i ea3.symm ?_
  refine cut_i a4 1666 _ ?_ (fun kj => ?_)
  swap
  · refine lv_if_eq (tgt := 1665) hx hb dL_law_1658 (by decide) (fun c0 => ?_) (fun c0 => ?_)
    · refine lv_iconst (v := 0) hx hb dL_law_1665 (by decide) ?_
      exact kj 0 (by rw [ea4, if_pos c0])
    · refine lv_iconst (v := 1) hx hb dL_law_1661 (by decide) ?_
      refine lv_goto (tgt := 1666) hx hb dL_law_1662 (by decide) ?_
      exact kj 1 (by rw [ea4, if_neg c0])
  refine lv_aload_n hx hb dL_law_1666 rfl (lv_at hl 3 rfl) ?_
  refine va_calli (vx_runSW (As := [.ref v, .int a1, .int a2, .int a4, .ref oj]) (rest := []) ⟨hx, hb, hml, hown, hts⟩ hH (vx_cwSW 5 hts gL_law_L_repeats rfl rfl rfl (by decide +kernel) ⟨Nat.le_of_ble_eq_true rfl, Nat.le_of_ble_eq_true rfl⟩) ⟨pcX_b, pcX_u hP hK hD hS hA hE⟩ rfl rfl hl.1 rfl (lv_room (Nat.le_of_ble_eq_true rfl)) dL_law_1667 ⟨by show cells + 2 ≤ 601024; omega, by show slots + 12 ≤ 7293034; omega⟩) hS (fun q _ h => h) (fun q h => h) (fun k1 w t H locs ht hvm hMk hB hsz hk1 hS => ?_)
  rw [ht] at hB
  obtain ⟨hP, hD⟩ := hB
  obtain ⟨⟨vs12, h12⟩, hR⟩ := hM k1 w hMk
  refine lv_istore (lv' := [(6, .int k1), (0, .ref b), (1, .ref v), (2, .ref am), (3, .ref oj), (4, .ref od), (5, .int x5)]) hx hb dL_law_1670 hl (by decide) rfl (fun ls hl => ?_)
  refine lv_aload_n hx hb dL_law_1672 rfl (lv_at hl 3 rfl) ?_
  refine lv_aload_n hx hb dL_law_1673 rfl (lv_at hl 1 rfl) ?_
  refine lv_iload hx hb dL_law_1674 (lv_at hl 6 rfl) ?_
  refine lv_iconst (v := 1) hx hb dL_law_1676 (by decide) ?_
  refine lv_iadd hx hb dL_law_1677 ?_
  refine va_sld hx hb hX hbl hbA hS g1 dL_law_1678 ?_
  refine re_i ea1.symm ?_
  refine lv_aload_n hx hb dL_law_1679 rfl (lv_at hl 1 rfl) ?_
  refine lv_iload hx hb dL_law_1680 (lv_at hl 6 rfl) ?_
  refine lv_iconst (v := 2) hx hb dL_law_1682 (by decide) ?_
  refine lv_iadd hx hb dL_law_1683 ?_
  refine va_sld hx hb hX hbl hbA hS g2 dL_law_1684 ?_
  refine re_i ea2.symm ?_
  refine lv_aload_n hx hb dL_law_1685 rfl (lv_at hl 1 rfl) ?_
  refine lv_iload hx hb dL_law_1686 (lv_at hl 6 rfl) ?_
  refine lv_iconst (v := 3) hx hb dL_law_1688 (by decide) ?_
  refine lv_iadd hx hb dL_law_1689 ?_
  refine va_sld hx hb hX hbl hbA hS g3 dL_law_1690 ?_
  refine re_i ea3.symm ?_
  refine cut_i a4 1699 _ ?_ (fun kj => ?_)
  swap
  · refine lv_if_eq (tgt := 1698) hx hb dL_law_1691 (by decide) (fun c0 => ?_) (fun c0 => ?_)
    · refine lv_iconst (v := 0) hx hb dL_law_1698 (by decide) ?_
      exact kj 0 (by rw [ea4, if_pos c0])
    · refine lv_iconst (v := 1) hx hb dL_law_1694 (by decide) ?_
      refine lv_goto (tgt := 1699) hx hb dL_law_1695 (by decide) ?_
      exact kj 1 (by rw [ea4, if_neg c0])
  refine va_calli (va_runV (As := [.int a1, .int a2, .int a4]) (rest := []) ⟨hx, hb, hml, hown, hts⟩ hR (cwV 3 hts gL_law_X8_repeats rfl rfl rfl (by decide +kernel) ⟨Nat.le_of_ble_eq_true rfl, Nat.le_of_ble_eq_true rfl⟩) ⟨pcM_b, va_recv hK hP (ci := 9) (q0 := 12) rfl h12, pcM_u hP hK hD hS hA⟩ rfl rfl hl.1 rfl (lv_room (Nat.le_of_ble_eq_true rfl)) dL_law_1699 ⟨by show cells + 2 + 0 ≤ 601024; omega, by show slots + 12 + 0 ≤ 7293034; omega⟩) hS (fun q _ h => h) (fun q h => h) (fun r2 w2 t H locs ht hvm hE2 hB hsz hk1 hS => ?_)
  rw [ht] at hB
  obtain ⟨hP, hD⟩ := hB
  obtain ⟨⟨ad, z, wi, dm, hm, hz⟩, hou, hI2⟩ := hE2
  refine lv_istore (lv' := [(7, .int r2), (6, .int k1), (0, .ref b), (1, .ref v), (2, .ref am), (3, .ref oj), (4, .ref od), (5, .int x5)]) hx hb dL_law_1702 hl (by decide) rfl (fun ls hl => ?_)
  refine lv_aload_n hx hb dL_law_1704 rfl (lv_at hl 4 rfl) ?_
  refine vp_callSi (va_Run.run (va_runV (As := []) (rest := []) ⟨hx, hb, hml, hown, hts⟩ (metX8_thrown l G tys w2 (F := fun _ _ => 0) hm) (cwV 0 hts gL_law_X8_thrown rfl rfl rfl (by decide +kernel) ⟨Nat.le_of_ble_eq_true rfl, Nat.le_of_ble_eq_true rfl⟩) ⟨pcR_b, va_recv hK hP (ci := 9) (q0 := 12) rfl hm, pcR_u hP hK⟩ rfl rfl hl.1 rfl (lv_room (Nat.le_of_ble_eq_true rfl)) dL_law_1705 ⟨by show cells + 2 + 0 ≤ 601024; omega, by show slots + 12 + 0 ≤ 7293034; omega⟩)) (fun r3 h3 => ?_)
  refine lv_iload hx hb dL_law_1708 (lv_at hl 1 rfl) ?_
  refine lv_icmp_eq (tgt := 1715) hx hb dL_law_1710 (by decide) (fun c1 => ?_) (fun c1 => absurd (h3.trans hz) c1)
  refine lv_iload hx hb dL_law_1715 (lv_at hl 1 rfl) ?_
  refine lv_if_ne (tgt := 1732) hx hb dL_law_1717 (by decide) (fun c2 => ?_) (fun c2 => ?_)
  · refine lv_goto (tgt := 1803) hx hb dL_law_1732 (by decide) ?_
    refine W.widen (k := cells + 8) (n := slots + 242) (by omega) (by omega) ?_
    exact kk _ _ _ _ hI2 hP hD hS (lv_sub hl [2, 3, 4, 5, 6, 7] rfl)
  · obtain ⟨f, hf, hf0⟩ := hou c2
    refine lv_aload_n hx hb dL_law_1720 rfl (lv_at hl 5 rfl) ?_
    refine lv_iconst (v := 0) hx hb dL_law_1721 (by decide) ?_
    refine va_lald hx hb hK hP 36 2 hf htJ in01 dL_law_1722 ?_
    refine re_l (show f (0 : Int32).toNatClampNeg = r2.toInt64 from hf0) ?_
    refine lv_iload hx hb dL_law_1723 (lv_at hl 0 rfl) ?_
    refine lv_i2l hx hb dL_law_1725 rfl ?_
    refine W.lcmp hx hb dL_law_1726 ?_
    refine re_i (lg_cmp_self _) ?_
    refine lv_if_eq (tgt := 1732) hx hb dL_law_1727 (by decide) (fun _ => ?_) (fun c3 => absurd rfl c3)
    refine lv_goto (tgt := 1803) hx hb dL_law_1732 (by decide) ?_
    refine W.widen (k := cells + 8) (n := slots + 242) (by omega) (by omega) ?_
    exact kk _ _ _ _ hI2 hP hD hS (lv_sub hl [2, 3, 4, 5, 6, 7] rfl)
set_option maxHeartbeats 4000000 in
set_option maxRecDepth 100000 in
theorem case_judge {p : Program} {l : Launch} {e : Env} {s : State} {m : MethodId} {below : List Frame} {meth : Method} {c : Code} (hnt : l.stackTraces = false) {G : va_G} {tys : List (ClassId × FieldType)} {tE mi : Nat} {cI cO cJ cB : ClassId} (htI : tI tys cI) (htO : tO tys cO) (htJ : tys[2]? = some (cJ, .long)) (htB : tys[3]? = some (cB, .double)) {b L : Nat} {xs : Nat → Int32} (hL : L ≤ 2048) (C0 : lw_At p s m meth c b L xs) {v am oj od : Nat} (hK : va_K G vwCl tys s) (hE : env (fun q : Nat => s.heap.size ≤ q) tE mi s s.heap) {ws : va_W} {H : Heap} {locs : List Loc} {i : Nat} {x5 : Int32} {cells slots : Nat} {Q : State → Prop} {ls : Array Slot} (hi : i + 3 < L) (e5 : x5 = nI i) (hI : INV cI cO cJ cB tE v am oj od ws) (hP : va_P G vwCl ws H) (hD : va_D (fun q : Nat => s.heap.size ≤ q) ws) (hS : va_S (fun q : Nat => s.heap.size ≤ q) s.heap H locs) (hl : lv_has ls 10 [(0, .ref b), (1, .ref v), (2, .ref am), (3, .ref oj), (4, .ref od), (5, .int x5)]) (hc : cells + 8 ≤ 601024) (hs : slots + 242 ≤ 7293034) (kk : ∀ (w : va_W) (H1 : Heap) (locs1 : List Loc) (ls1 : Array Slot), INV cI cO cJ cB tE v am oj od w → va_P G vwCl w H1 → va_D (fun q : Nat => s.heap.size ≤ q) w → va_S (fun q : Nat => s.heap.size ≤ q) s.heap H1 locs1 → lv_has ls1 10 [(0, .ref b), (1, .ref v), (2, .ref am), (3, .ref oj), (4, .ref od), (5, .int x5)] → W p l e room_1 s m #[Value.ref b] below meth c H1 locs1 (cells + 8) (slots + 242) Q (F0 m 1803 ls1 [])) : W p l e room_1 s m #[Value.ref b] below meth c H locs (cells) (slots) Q (F0 m 1735 ls []) := by
  obtain ⟨hx, hb, hr, hml, hown, hts0, hX, hbl, hlocks, hgv⟩ := C0
  have hts : ∀ w ∈ wsL_law, w.before #[Value.ref b] s = true := fun w h => hts0 w (wsL_law_in w h)
  have hown : s.vm.findClass RL = some m.cls := hown
  have hA : ∀ q : Nat, s.heap.size ≤ q → (fun q : Nat => s.heap.size ≤ q) q := fun _ h => h
  have hbA : ¬ (fun q : Nat => s.heap.size ≤ q) b := Nat.not_le.mpr hbl
  have g1 : vp_in (x5 + 1) L := by rw [e5, show nI i + 1 = nI (i + 1) from nI_add i 1]; exact vp_in_nI (by omega) (by omega)
  obtain ⟨a1, ea1⟩ : ∃ y, y = xs (x5 + 1).toNatClampNeg := ⟨_, rfl⟩
  have g2 : vp_in (x5 + 2) L := by rw [e5, show nI i + 2 = nI (i + 2) from nI_add i 2]; exact vp_in_nI (by omega) (by omega)
  obtain ⟨a2, ea2⟩ : ∃ y, y = xs (x5 + 2).toNatClampNeg := ⟨_, rfl⟩
  obtain ⟨Mid, hH, hM⟩ := sem_judge (A := (fun q : Nat => s.heap.size ≤ q)) (mi := mi) l hnt G tys htI htO htJ htB hI a1 a2
  refine lv_aload_n hx hb dL_law_1735 rfl (lv_at hl 1 rfl) ?_
  refine lv_aload_n hx hb dL_law_1736 rfl (lv_at hl 0 rfl) ?_
  refine lv_iload hx hb dL_law_1737 (lv_at hl 5 rfl) ?_
  refine lv_iconst (v := 1) hx hb dL_law_1739 (by decide) ?_
  refine lv_iadd hx hb dL_law_1740 ?_
  refine va_sld hx hb hX hbl hbA hS g1 dL_law_1741 ?_
  refine re_i ea1.symm ?_
  refine lv_aload_n hx hb dL_law_1742 rfl (lv_at hl 0 rfl) ?_
  refine lv_iload hx hb dL_law_1743 (lv_at hl 5 rfl) ?_
  refine lv_iconst (v := 2) hx hb dL_law_1745 (by decide) ?_
  refine lv_iadd hx hb dL_law_1746 ?_
  refine va_sld hx hb hX hbl hbA hS g2 dL_law_1747 ?_
  refine re_i ea2.symm ?_
  refine lv_aload_n hx hb dL_law_1748 rfl (lv_at hl 3 rfl) ?_
  refine va_calli (vx_runSW (As := [.ref v, .int a1, .int a2, .ref oj]) (rest := []) ⟨hx, hb, hml, hown, hts⟩ hH (vx_cwSW 4 hts gL_law_L_judge rfl rfl rfl (by decide +kernel) ⟨Nat.le_of_ble_eq_true rfl, Nat.le_of_ble_eq_true rfl⟩) ⟨pcX_b, pcX_u hP hK hD hS hA hE⟩ rfl rfl hl.1 rfl (lv_room (Nat.le_of_ble_eq_true rfl)) dL_law_1749 ⟨by show cells + 2 ≤ 601024; omega, by show slots + 12 ≤ 7293034; omega⟩) hS (fun q _ h => h) (fun q h => h) (fun k1 w t H locs ht hvm hMk hB hsz hk1 hS => ?_)
  rw [ht] at hB
  obtain ⟨hP, hD⟩ := hB
  obtain ⟨⟨vs12, h12⟩, hR⟩ := hM k1 w hMk
  refine lv_istore (lv' := [(6, .int k1), (0, .ref b), (1, .ref v), (2, .ref am), (3, .ref oj), (4, .ref od), (5, .int x5)]) hx hb dL_law_1752 hl (by decide) rfl (fun ls hl => ?_)
  refine lv_aload_n hx hb dL_law_1754 rfl (lv_at hl 3 rfl) ?_
  refine lv_aload_n hx hb dL_law_1755 rfl (lv_at hl 1 rfl) ?_
  refine lv_iload hx hb dL_law_1756 (lv_at hl 6 rfl) ?_
  refine lv_iconst (v := 1) hx hb dL_law_1758 (by decide) ?_
  refine lv_iadd hx hb dL_law_1759 ?_
  refine va_sld hx hb hX hbl hbA hS g1 dL_law_1760 ?_
  refine re_i ea1.symm ?_
  refine lv_aload_n hx hb dL_law_1761 rfl (lv_at hl 1 rfl) ?_
  refine lv_iload hx hb dL_law_1762 (lv_at hl 6 rfl) ?_
  refine lv_iconst (v := 2) hx hb dL_law_1764 (by decide) ?_
  refine lv_iadd hx hb dL_law_1765 ?_
  refine va_sld hx hb hX hbl hbA hS g2 dL_law_1766 ?_
  refine re_i ea2.symm ?_
  refine va_calli (va_runV (As := [.int a1, .int a2]) (rest := []) ⟨hx, hb, hml, hown, hts⟩ hR (cwV 2 hts gL_law_X8_judge rfl rfl rfl (by decide +kernel) ⟨Nat.le_of_ble_eq_true rfl, Nat.le_of_ble_eq_true rfl⟩) ⟨pcM_b, va_recv hK hP (ci := 9) (q0 := 12) rfl h12, pcM_u hP hK hD hS hA⟩ rfl rfl hl.1 rfl (lv_room (Nat.le_of_ble_eq_true rfl)) dL_law_1767 ⟨by show cells + 2 + 0 ≤ 601024; omega, by show slots + 12 + 0 ≤ 7293034; omega⟩) hS (fun q _ h => h) (fun q h => h) (fun r2 w2 t H locs ht hvm hE2 hB hsz hk1 hS => ?_)
  rw [ht] at hB
  obtain ⟨hP, hD⟩ := hB
  obtain ⟨⟨ad, z, wi, dm, hm, hz⟩, hou, hI2⟩ := hE2
  refine lv_istore (lv' := [(7, .int r2), (6, .int k1), (0, .ref b), (1, .ref v), (2, .ref am), (3, .ref oj), (4, .ref od), (5, .int x5)]) hx hb dL_law_1770 hl (by decide) rfl (fun ls hl => ?_)
  refine lv_aload_n hx hb dL_law_1772 rfl (lv_at hl 4 rfl) ?_
  refine vp_callSi (va_Run.run (va_runV (As := []) (rest := []) ⟨hx, hb, hml, hown, hts⟩ (metX8_thrown l G tys w2 (F := fun _ _ => 0) hm) (cwV 0 hts gL_law_X8_thrown rfl rfl rfl (by decide +kernel) ⟨Nat.le_of_ble_eq_true rfl, Nat.le_of_ble_eq_true rfl⟩) ⟨pcR_b, va_recv hK hP (ci := 9) (q0 := 12) rfl hm, pcR_u hP hK⟩ rfl rfl hl.1 rfl (lv_room (Nat.le_of_ble_eq_true rfl)) dL_law_1773 ⟨by show cells + 2 + 0 ≤ 601024; omega, by show slots + 12 + 0 ≤ 7293034; omega⟩)) (fun r3 h3 => ?_)
  refine lv_iload hx hb dL_law_1776 (lv_at hl 1 rfl) ?_
  refine lv_icmp_eq (tgt := 1783) hx hb dL_law_1778 (by decide) (fun c1 => ?_) (fun c1 => absurd (h3.trans hz) c1)
  refine lv_iload hx hb dL_law_1783 (lv_at hl 1 rfl) ?_
  refine lv_if_ne (tgt := 1800) hx hb dL_law_1785 (by decide) (fun c2 => ?_) (fun c2 => ?_)
  · refine lv_goto (tgt := 1803) hx hb dL_law_1800 (by decide) ?_
    refine W.widen (k := cells + 8) (n := slots + 242) (by omega) (by omega) ?_
    exact kk _ _ _ _ hI2 hP hD hS (lv_sub hl [2, 3, 4, 5, 6, 7] rfl)
  · obtain ⟨f, hf, hf0⟩ := hou c2
    refine lv_aload_n hx hb dL_law_1788 rfl (lv_at hl 5 rfl) ?_
    refine lv_iconst (v := 0) hx hb dL_law_1789 (by decide) ?_
    refine va_lald hx hb hK hP 36 2 hf htJ in01 dL_law_1790 ?_
    refine re_l (show f (0 : Int32).toNatClampNeg = r2.toInt64 from hf0) ?_
    refine lv_iload hx hb dL_law_1791 (lv_at hl 0 rfl) ?_
    refine lv_i2l hx hb dL_law_1793 rfl ?_
    refine W.lcmp hx hb dL_law_1794 ?_
    refine re_i (lg_cmp_self _) ?_
    refine lv_if_eq (tgt := 1800) hx hb dL_law_1795 (by decide) (fun _ => ?_) (fun c3 => absurd rfl c3)
    refine lv_goto (tgt := 1803) hx hb dL_law_1800 (by decide) ?_
    refine W.widen (k := cells + 8) (n := slots + 242) (by omega) (by omega) ?_
    exact kk _ _ _ _ hI2 hP hD hS (lv_sub hl [2, 3, 4, 5, 6, 7] rfl)
/-- what the methods find around them, at the law's entry -/
theorem env_start {p : Program} {s : State} {m : MethodId} {meth : Method} {c : Code} {b L : Nat} {xs : Nat → Int32} (C0 : lw_At p s m meth c b L xs) : ∃ tE mi, env (fun q : Nat => s.heap.size ≤ q) tE mi s s.heap := by
  obtain ⟨-, -, -, -, -, hts, -, -, -, hgv⟩ := C0
  have hs := flat_of_before _ hgv
  have hA : ∀ a : Nat, a < s.heap.size → ¬ (fun q : Nat => s.heap.size ≤ q) a := fun a h q => absurd h (Nat.not_lt.mpr q)
  have hstr : ∀ (k : Nat) (tx : String), (Cond.stringRef RX7 k tx).before #[Value.ref b] s = true → (Cond.exactly (.string RX7 k) "java/lang/String").before #[Value.ref b] s = true → ∃ a, vk_R RX7 k tx a s := fun k tx h1 h2 => by
    obtain ⟨a, -, -, -, h3, -⟩ := Cond.exactly_spec h2
    exact ⟨a, vk_R.of h1 h3⟩
  have hlen := va_eqt (hs (Cond.eq (.length (.static "java/util/ArrayList" "DEFAULTCAPACITY_EMPTY_ELEMENTDATA" "[Ljava/lang/Object;")) (.int 0)) (by decide +kernel))
  obtain ⟨tE, htE, hT⟩ := va_Tof (tm := .static "java/util/ArrayList" "DEFAULTCAPACITY_EMPTY_ELEMENTDATA" "[Ljava/lang/Object;") (ty := .object "java/lang/Object") (N := 0) (f := fun _ => .null) (A := fun q : Nat => s.heap.size ≤ q) (by decide) (hs _ (by decide +kernel)) hlen (fun j hj => absurd hj (Nat.not_lt_zero j)) hA
  obtain ⟨mi, hMi⟩ := va_Mi.of (hs (.isRef (.mirror "[Ljava/lang/Object;")) (by decide +kernel))
  have key : ∀ q ∈ envN, Cond.not (.castable q.1 q.2) ∈ flatC (Jvm.Cond.and given_1 narrow_1) := by decide +kernel
  refine ⟨tE, mi, vx_Zqof (hts (.laysStatic "java/lang/Throwable" "UNASSIGNED_STACK" "[Ljava/lang/StackTraceElement;") (by decide +kernel)) (hts (.initialized "java/lang/Throwable") (by decide +kernel)) (hs (.isRef (.static "java/lang/Throwable" "UNASSIGNED_STACK" "[Ljava/lang/StackTraceElement;")) (by decide +kernel)) hA, vx_Zqof (hts (.laysStatic "java/lang/Throwable" "SUPPRESSED_SENTINEL" "Ljava/util/List;") (by decide +kernel)) (hts (.initialized "java/lang/Throwable") (by decide +kernel)) (hs (.isRef (.static "java/lang/Throwable" "SUPPRESSED_SENTINEL" "Ljava/util/List;")) (by decide +kernel)) hA,
    hstr 211 _ (hts _ (by decide +kernel)) (hs _ (by decide +kernel)), hstr 218 _ (hts _ (by decide +kernel)) (hs _ (by decide +kernel)), hstr 223 _ (hts _ (by decide +kernel)) (hs _ (by decide +kernel)),
    va_Zof (hts (.laysStatic "java/util/ArrayList" "DEFAULTCAPACITY_EMPTY_ELEMENTDATA" "[Ljava/lang/Object;") (by decide +kernel)) (hts (.initialized "java/util/ArrayList") (by decide +kernel)) htE hA, hT, va_AO.of (hts (.arrayOver (.object "java/lang/Object")) (by decide +kernel)), hMi, fun w hw => va_Nw.of (envW_on w hw) (hts w (envW_tbl w hw)), fun q hq => va_Nc.of (hs _ (key q hq))⟩
/-- the classes and the rows' classes, at the law's entry -/
theorem K_start {s : State} {b : Nat} (hts : ∀ w ∈ lw_tbl, w.before #[Value.ref b] s = true) : ∃ (G : va_G) (cI cO cJ cB : ClassId), va_K G vwCl [(cI, .int), (cO, .object "java/lang/Object"), (cJ, .long), (cB, .double)] s := by
  obtain ⟨c0, i0, n0⟩ := u_known (C := RJx4a65c) (T := TJx4a65c) (N := 3) (n := 3) hts inJx4a65c (hts (.instantiable RJx4a65c 3) (by decide +kernel))
  obtain ⟨c1, i1, n1⟩ := u_known (C := RX0) (T := TX0) (N := 5) (n := 5) hts inX0 (hts (.instantiable RX0 5) (by decide +kernel))
  obtain ⟨c2, i2, n2⟩ := u_known (C := RX1) (T := TX1) (N := 7) (n := 7) hts inX1 (hts (.instantiable RX1 7) (by decide +kernel))
  obtain ⟨c3, i3, n3⟩ := u_known (C := RX2) (T := TX2) (N := 3) (n := 3) hts inX2 (hts (.instantiable RX2 3) (by decide +kernel))
  obtain ⟨c4, i4, n4⟩ := u_known (C := RX3) (T := TX3) (N := 5) (n := 5) hts inX3 (hts (.instantiable RX3 5) (by decide +kernel))
  obtain ⟨c5, i5, n5⟩ := u_known (C := RX4) (T := TX4) (N := 3) (n := 3) hts inX4 (hts (.instantiable RX4 3) (by decide +kernel))
  obtain ⟨c6, i6, n6⟩ := u_known (C := RX5) (T := TX5) (N := 5) (n := 5) hts inX5 (hts (.instantiable RX5 5) (by decide +kernel))
  obtain ⟨c7, i7, n7⟩ := u_known (C := RX6) (T := TX6) (N := 5) (n := 5) hts inX6 (hts (.instantiable RX6 5) (by decide +kernel))
  obtain ⟨c8, i8, n8⟩ := u_known (C := RX7) (T := TX7) (N := 7) (n := 7) hts inX7 (hts (.instantiable RX7 7) (by decide +kernel))
  obtain ⟨c9, i9, n9⟩ := u_known (C := RX8) (T := TX8) (N := 39) (n := 39) hts inX8 (hts (.instantiable RX8 39) (by decide +kernel))
  obtain ⟨dC, dI, hKc⟩ : ∃ (dC : Nat → ClassId) (dI : Nat → Nat → Nat), ∀ (k : Nat) (q : vw_C), vwCl[k]? = some q → u_Kn s q.1 q.2.1 q.2.2 (dC k) (dI k) := by
    refine ⟨fun k => match k with | 0 => c0 | 1 => c1 | 2 => c2 | 3 => c3 | 4 => c4 | 5 => c5 | 6 => c6 | 7 => c7 | 8 => c8 | _ => c9, fun k => match k with | 0 => i0 | 1 => i1 | 2 => i2 | 3 => i3 | 4 => i4 | 5 => i5 | 6 => i6 | 7 => i7 | 8 => i8 | _ => i9, ?_⟩
    intro k q hq
    match k, hq with
    | 0, hq => cases hq; exact n0
    | 1, hq => cases hq; exact n1
    | 2, hq => cases hq; exact n2
    | 3, hq => cases hq; exact n3
    | 4, hq => cases hq; exact n4
    | 5, hq => cases hq; exact n5
    | 6, hq => cases hq; exact n6
    | 7, hq => cases hq; exact n7
    | 8, hq => cases hq; exact n8
    | 9, hq => cases hq; exact n9
    | k + 10, hq => simp [vwCl] at hq
  obtain ⟨cI, kI, pI, a1, a2, a3⟩ := Cond.arrayClass_spec (hts (.arrayClass .int) (by decide +kernel))
  obtain ⟨cJ, kJ, pJ, b1, b2, b3⟩ := Cond.arrayClass_spec (hts (.arrayClass .long) (by decide +kernel))
  obtain ⟨cB, kB, pB, d1, d2, d3⟩ := Cond.arrayClass_spec (hts (.arrayClass .double) (by decide +kernel))
  obtain ⟨pO, cO, kO, e1, -, e2, e3, e4⟩ := Cond.arrayOver_spec (hts (.arrayOver (.object "java/lang/Object")) (by decide +kernel))
  refine ⟨(dC, dI), cI, cO, cJ, cB, hKc, fun k q hq => ?_⟩
  match k, hq with
  | 0, hq => cases hq; exact ⟨fun n z => ⟨fun k h => (by cases h), kI, a2, pI, a3⟩, a1⟩
  | 1, hq => cases hq; exact ⟨fun n z => ⟨fun k h => (by cases h), kO, e2, pO, e3⟩, kO, pO, e2, e3, e1, e4⟩
  | 2, hq => cases hq; exact ⟨fun n z => ⟨fun k h => (by cases h), kJ, b2, pJ, b3⟩, b1⟩
  | 3, hq => cases hq; exact ⟨fun n z => ⟨fun k h => (by cases h), kB, d2, pB, d3⟩, d1⟩
  | k + 4, hq => simp at hq
set_option maxHeartbeats 4000000 in
set_option maxRecDepth 100000 in
theorem law_loop {p : Program} {l : Launch} {e : Env} {s : State} {m : MethodId} {below : List Frame} {meth : Method} {c : Code} (hnt : l.stackTraces = false) {G : va_G} {tys : List (ClassId × FieldType)} {tE mi : Nat} {cI cO cJ cB : ClassId} (htI : tI tys cI) (htO : tO tys cO) (htJ : tys[2]? = some (cJ, .long)) (htB : tys[3]? = some (cB, .double)) {b L : Nat} {xs : Nat → Int32} (hL : L ≤ 2048) (C0 : lw_At p s m meth c b L xs) {v am oj od : Nat} (hK : va_K G vwCl tys s) (hE : env (fun q : Nat => s.heap.size ≤ q) tE mi s s.heap) : ∀ (n i : Nat) (x5 : Int32) (cells slots : Nat) (ws : va_W) (H : Heap) (locs : List Loc) (ls : Array Slot), i ≤ L → L + 1 ≤ i + n → x5 = nI i → cells + 2 * (L - i) ≤ 601024 → slots + 61 * (L - i) ≤ 7293034 → INV cI cO cJ cB tE v am oj od ws → va_P G vwCl ws H → va_D (fun q : Nat => s.heap.size ≤ q) ws → va_S (fun q : Nat => s.heap.size ≤ q) s.heap H locs → lv_has ls 10 [(0, .ref b), (1, .ref v), (2, .ref am), (3, .ref oj), (4, .ref od), (5, .int x5)] → W p l e room_1 s m #[Value.ref b] below meth c H locs (cells) (slots) (lw_Z below #[Value.ref b] s) (F0 m 28 ls []) := by
  have C1 := C0
  obtain ⟨hx, hb, hr, hml, hown, hts0, hX, hbl, hlocks, hgv⟩ := C1
  have hbA : ¬ (fun q : Nat => s.heap.size ≤ q) b := Nat.not_le.mpr hbl
  intro n
  induction n with
  | zero => exact fun i x5 cells slots ws H locs ls h1 h2 => absurd h2 (by omega)
  | succ n ih =>
    intro i x5 cells slots ws H locs ls hiL hin e5 hc hs hI hP hD hS hl
    refine lv_iload hx hb dL_law_28 (lv_at hl 5 rfl) ?_
    refine lv_aload_n hx hb dL_law_30 rfl (lv_at hl 0 rfl) ?_
    refine va_slen hx hb hX hbl hbA hS dL_law_31 ?_
    refine lv_iconst (v := 4) hx hb dL_law_32 (by decide) ?_
    refine lv_isub hx hb dL_law_33 ?_
    have e4 : (Int32.ofNat L - 4).toInt = (L : Int) - 4 := i_sub (x := nI L) (nI_toInt (by omega)) (show (4 : Int32).toInt = 4 from by decide) (by omega) (by omega)
    have ei : x5.toInt = (i : Int) := by rw [e5]; exact nI_toInt (by omega)
    refine lv_icmp_gt (tgt := 1809) hx hb dL_law_34 (by decide) (fun c1 => ?_) (fun c1 => ?_)
    · refine lv_iconst (v := 1) hx hb dL_law_1809 (by decide) ?_
      refine va_forget (fun q hq => hS.2.2 q hq) ?_
      refine W.widen (k := 601024) (n := 7293034) (by omega) (by omega) ?_
      refine W.base ?_
      exact lw_ret (Drawn.sameBut.refl s.drawn lw_cs) hx hb hr hlocks dL_law_1810
    · rw [Int32.lt_iff_toInt_lt, e4, ei] at c1
      have hi : i + 3 < L := by omega
      have g0 : vp_in x5 L := by rw [e5]; exact vp_in_nI (by omega) (by omega)
      have tail : ∀ (w : va_W) (H1 : Heap) (locs1 : List Loc) (ls1 : Array Slot), INV cI cO cJ cB tE v am oj od w → va_P G vwCl w H1 → va_D (fun q : Nat => s.heap.size ≤ q) w → va_S (fun q : Nat => s.heap.size ≤ q) s.heap H1 locs1 → lv_has ls1 10 [(0, .ref b), (1, .ref v), (2, .ref am), (3, .ref oj), (4, .ref od), (5, .int x5)] → W p l e room_1 s m #[Value.ref b] below meth c H1 locs1 (cells + 8) (slots + 242) (lw_Z below #[Value.ref b] s) (F0 m 1803 ls1 []) := by
        intro w H locs ls hI hP hD hS hl
        refine lv_iinc (v := nI (i + 4)) (lv' := [(5, .int (nI (i + 4))), (0, .ref b), (1, .ref v), (2, .ref am), (3, .ref oj), (4, .ref od)]) hx hb dL_law_1803 hl (k := 5) rfl (by rw [e5]; exact nI_add i 4) (by decide) rfl (fun ls hl => ?_)
        refine lv_goto (tgt := 28) hx hb dL_law_1806 (by decide) ?_
        exact ih (i + 4) _ _ _ w H locs ls (by omega) (by omega) rfl (by omega) (by omega) hI hP hD hS (lv_sub hl [1, 2, 3, 4, 5, 0] rfl)
      refine lv_aload_n hx hb dL_law_37 rfl (lv_at hl 0 rfl) ?_
      refine lv_iload hx hb dL_law_38 (lv_at hl 5 rfl) ?_
      refine va_sld hx hb hX hbl hbA hS g0 dL_law_40 ?_
      refine lv_bipush (v := 31) hx hb dL_law_41 (by decide) ?_
      refine lv_iand hx hb dL_law_43 ?_
      refine lv_topi (fun t et => ?_)
      have hc8 : cells + 8 ≤ 601024 := by omega
      have hs8 : slots + 242 ≤ 7293034 := by omega
      by_cases t0 : t = 0
      · refine lv_tableIn (tgt := 168) hx hb dL_law_44 (by rw [t0]; decide) (by rw [t0]; decide) (by rw [t0]; rfl) (by decide) ?_
        exact case_sample hnt htI htO htJ htB hL C0 hK hE hi e5 hI hP hD hS hl hc8 hs8 tail
      by_cases t1 : t = 1
      · refine lv_tableIn (tgt := 248) hx hb dL_law_44 (by rw [t1]; decide) (by rw [t1]; decide) (by rw [t1]; rfl) (by decide) ?_
        exact case_set hnt htI htO htJ htB hL C0 hK hE hi e5 hI hP hD hS hl hc8 hs8 tail
      by_cases t2 : t = 2
      · refine lv_tableIn (tgt := 328) hx hb dL_law_44 (by rw [t2]; decide) (by rw [t2]; decide) (by rw [t2]; rfl) (by decide) ?_
        exact case_deep hnt htI htO htJ htB hL C0 hK hE hi e5 hI hP hD hS hl hc8 hs8 tail
      by_cases t3 : t = 3
      · refine lv_tableIn (tgt := 405) hx hb dL_law_44 (by rw [t3]; decide) (by rw [t3]; decide) (by rw [t3]; rfl) (by decide) ?_
        exact case_pin hnt htI htO htJ htB hL C0 hK hE hi e5 hI hP hD hS hl hc8 hs8 tail
      by_cases t4 : t = 4
      · refine lv_tableIn (tgt := 473) hx hb dL_law_44 (by rw [t4]; decide) (by rw [t4]; decide) (by rw [t4]; rfl) (by decide) ?_
        exact case_drive hnt htI htO htJ htB hL C0 hK hE hi e5 hI hP hD hS hl hc8 hs8 tail
      by_cases t5 : t = 5
      · refine lv_tableIn (tgt := 521) hx hb dL_law_44 (by rw [t5]; decide) (by rw [t5]; decide) (by rw [t5]; rfl) (by decide) ?_
        exact case_enter hnt htI htO htJ htB hL C0 hK hE hi e5 hI hP hD hS hl hc8 hs8 tail
      by_cases t6 : t = 6
      · refine lv_tableIn (tgt := 577) hx hb dL_law_44 (by rw [t6]; decide) (by rw [t6]; decide) (by rw [t6]; rfl) (by decide) ?_
        exact case_step hnt htI htO htJ htB hL C0 hK hE hi e5 hI hP hD hS hl hc8 hs8 tail
      by_cases t7 : t = 7
      · refine lv_tableIn (tgt := 590) hx hb dL_law_44 (by rw [t7]; decide) (by rw [t7]; decide) (by rw [t7]; rfl) (by decide) ?_
        exact case_avalanche hnt htI htO htJ htB hL C0 hK hE hi e5 hI hP hD hS hl hc8 hs8 tail
      by_cases t8 : t = 8
      · refine lv_tableIn (tgt := 603) hx hb dL_law_44 (by rw [t8]; decide) (by rw [t8]; decide) (by rw [t8]; rfl) (by decide) ?_
        exact case_whirlAt hnt htI htO htJ htB hL C0 hK hE hi e5 hI hP hD hS hl hc8 hs8 tail
      by_cases t9 : t = 9
      · refine lv_tableIn (tgt := 659) hx hb dL_law_44 (by rw [t9]; decide) (by rw [t9]; decide) (by rw [t9]; rfl) (by decide) ?_
        exact case_energy hnt htI htO htJ htB hL C0 hK hE hi e5 hI hP hD hS hl hc8 hs8 tail
      by_cases t10 : t = 10
      · refine lv_tableIn (tgt := 715) hx hb dL_law_44 (by rw [t10]; decide) (by rw [t10]; decide) (by rw [t10]; rfl) (by decide) ?_
        exact case_ring hnt htI htO htJ htB hL C0 hK hE hi e5 hI hP hD hS hl hc8 hs8 tail
      by_cases t11 : t = 11
      · refine lv_tableIn (tgt := 783) hx hb dL_law_44 (by rw [t11]; decide) (by rw [t11]; decide) (by rw [t11]; rfl) (by decide) ?_
        exact case_flux hnt htI htO htJ htB hL C0 hK hE hi e5 hI hP hD hS hl hc8 hs8 tail
      by_cases t12 : t = 12
      · refine lv_tableIn (tgt := 851) hx hb dL_law_44 (by rw [t12]; decide) (by rw [t12]; decide) (by rw [t12]; rfl) (by decide) ?_
        exact case_warm hnt htI htO htJ htB hL C0 hK hE hi e5 hI hP hD hS hl hc8 hs8 tail
      by_cases t13 : t = 13
      · refine lv_tableIn (tgt := 907) hx hb dL_law_44 (by rw [t13]; decide) (by rw [t13]; decide) (by rw [t13]; rfl) (by decide) ?_
        exact case_ofRing hnt htI htO htJ htB hL C0 hK hE hi e5 hI hP hD hS hl hc8 hs8 tail
      by_cases t14 : t = 14
      · refine lv_tableIn (tgt := 975) hx hb dL_law_44 (by rw [t14]; decide) (by rw [t14]; decide) (by rw [t14]; rfl) (by decide) ?_
        exact case_current hnt htI htO htJ htB hL C0 hK hE hi e5 hI hP hD hS hl hc8 hs8 tail
      by_cases t15 : t = 15
      · refine lv_tableIn (tgt := 1031) hx hb dL_law_44 (by rw [t15]; decide) (by rw [t15]; decide) (by rw [t15]; rfl) (by decide) ?_
        exact case_heat hnt htI htO htJ htB hL C0 hK hE hi e5 hI hP hD hS hl hc8 hs8 tail
      by_cases t16 : t = 16
      · refine lv_tableIn (tgt := 1099) hx hb dL_law_44 (by rw [t16]; decide) (by rw [t16]; decide) (by rw [t16]; rfl) (by decide) ?_
        exact case_pass hnt htI htO htJ htB hL C0 hK hE hi e5 hI hP hD hS hl hc8 hs8 tail
      by_cases t17 : t = 17
      · refine lv_tableIn (tgt := 1155) hx hb dL_law_44 (by rw [t17]; decide) (by rw [t17]; decide) (by rw [t17]; rfl) (by decide) ?_
        exact case_warmth hnt htI htO htJ htB hL C0 hK hE hi e5 hI hP hD hS hl hc8 hs8 tail
      by_cases t18 : t = 18
      · refine lv_tableIn (tgt := 1211) hx hb dL_law_44 (by rw [t18]; decide) (by rw [t18]; decide) (by rw [t18]; rfl) (by decide) ?_
        exact case_ofCoil hnt htI htO htJ htB hL C0 hK hE hi e5 hI hP hD hS hl hc8 hs8 tail
      by_cases t19 : t = 19
      · refine lv_tableIn (tgt := 1266) hx hb dL_law_44 (by rw [t19]; decide) (by rw [t19]; decide) (by rw [t19]; rfl) (by decide) ?_
        exact case_share hnt htI htO htJ htB hL C0 hK hE hi e5 hI hP hD hS hl hc8 hs8 tail
      by_cases t20 : t = 20
      · refine lv_tableIn (tgt := 1307) hx hb dL_law_44 (by rw [t20]; decide) (by rw [t20]; decide) (by rw [t20]; rfl) (by decide) ?_
        exact case_margins hnt htI htO htJ htB hL C0 hK hE hi e5 hI hP hD hS hl hc8 hs8 tail
      by_cases t21 : t = 21
      · refine lv_tableIn (tgt := 1355) hx hb dL_law_44 (by rw [t21]; decide) (by rw [t21]; decide) (by rw [t21]; rfl) (by decide) ?_
        exact case_pulse hnt htI htO htJ htB hL C0 hK hE hi e5 hI hP hD hS hl hc8 hs8 tail
      by_cases t22 : t = 22
      · refine lv_tableIn (tgt := 1423) hx hb dL_law_44 (by rw [t22]; decide) (by rw [t22]; decide) (by rw [t22]; rfl) (by decide) ?_
        exact case_bit hnt htI htO htJ htB hL C0 hK hE hi e5 hI hP hD hS hl hc8 hs8 tail
      by_cases t23 : t = 23
      · refine lv_tableIn (tgt := 1479) hx hb dL_law_44 (by rw [t23]; decide) (by rw [t23]; decide) (by rw [t23]; rfl) (by decide) ?_
        exact case_point hnt htI htO htJ htB hL C0 hK hE hi e5 hI hP hD hS hl hc8 hs8 tail
      by_cases t24 : t = 24
      · refine lv_tableIn (tgt := 1559) hx hb dL_law_44 (by rw [t24]; decide) (by rw [t24]; decide) (by rw [t24]; rfl) (by decide) ?_
        exact case_claim hnt htI htO htJ htB hL C0 hK hE hi e5 hI hP hD hS hl hc8 hs8 tail
      by_cases t25 : t = 25
      · refine lv_tableIn (tgt := 1639) hx hb dL_law_44 (by rw [t25]; decide) (by rw [t25]; decide) (by rw [t25]; rfl) (by decide) ?_
        exact case_repeats hnt htI htO htJ htB hL C0 hK hE hi e5 hI hP hD hS hl hc8 hs8 tail
      by_cases t26 : t = 26
      · refine lv_tableIn (tgt := 1735) hx hb dL_law_44 (by rw [t26]; decide) (by rw [t26]; decide) (by rw [t26]; rfl) (by decide) ?_
        exact case_judge hnt htI htO htJ htB hL C0 hK hE hi e5 hI hP hD hS hl hc8 hs8 tail
      have u0 : ¬ t.toInt = 0 := fun q => t0 (Int32.toInt_inj.mp (q.trans (by decide : (0 : Int) = (0 : Int32).toInt)))
      have u1 : ¬ t.toInt = 1 := fun q => t1 (Int32.toInt_inj.mp (q.trans (by decide : (1 : Int) = (1 : Int32).toInt)))
      have u2 : ¬ t.toInt = 2 := fun q => t2 (Int32.toInt_inj.mp (q.trans (by decide : (2 : Int) = (2 : Int32).toInt)))
      have u3 : ¬ t.toInt = 3 := fun q => t3 (Int32.toInt_inj.mp (q.trans (by decide : (3 : Int) = (3 : Int32).toInt)))
      have u4 : ¬ t.toInt = 4 := fun q => t4 (Int32.toInt_inj.mp (q.trans (by decide : (4 : Int) = (4 : Int32).toInt)))
      have u5 : ¬ t.toInt = 5 := fun q => t5 (Int32.toInt_inj.mp (q.trans (by decide : (5 : Int) = (5 : Int32).toInt)))
      have u6 : ¬ t.toInt = 6 := fun q => t6 (Int32.toInt_inj.mp (q.trans (by decide : (6 : Int) = (6 : Int32).toInt)))
      have u7 : ¬ t.toInt = 7 := fun q => t7 (Int32.toInt_inj.mp (q.trans (by decide : (7 : Int) = (7 : Int32).toInt)))
      have u8 : ¬ t.toInt = 8 := fun q => t8 (Int32.toInt_inj.mp (q.trans (by decide : (8 : Int) = (8 : Int32).toInt)))
      have u9 : ¬ t.toInt = 9 := fun q => t9 (Int32.toInt_inj.mp (q.trans (by decide : (9 : Int) = (9 : Int32).toInt)))
      have u10 : ¬ t.toInt = 10 := fun q => t10 (Int32.toInt_inj.mp (q.trans (by decide : (10 : Int) = (10 : Int32).toInt)))
      have u11 : ¬ t.toInt = 11 := fun q => t11 (Int32.toInt_inj.mp (q.trans (by decide : (11 : Int) = (11 : Int32).toInt)))
      have u12 : ¬ t.toInt = 12 := fun q => t12 (Int32.toInt_inj.mp (q.trans (by decide : (12 : Int) = (12 : Int32).toInt)))
      have u13 : ¬ t.toInt = 13 := fun q => t13 (Int32.toInt_inj.mp (q.trans (by decide : (13 : Int) = (13 : Int32).toInt)))
      have u14 : ¬ t.toInt = 14 := fun q => t14 (Int32.toInt_inj.mp (q.trans (by decide : (14 : Int) = (14 : Int32).toInt)))
      have u15 : ¬ t.toInt = 15 := fun q => t15 (Int32.toInt_inj.mp (q.trans (by decide : (15 : Int) = (15 : Int32).toInt)))
      have u16 : ¬ t.toInt = 16 := fun q => t16 (Int32.toInt_inj.mp (q.trans (by decide : (16 : Int) = (16 : Int32).toInt)))
      have u17 : ¬ t.toInt = 17 := fun q => t17 (Int32.toInt_inj.mp (q.trans (by decide : (17 : Int) = (17 : Int32).toInt)))
      have u18 : ¬ t.toInt = 18 := fun q => t18 (Int32.toInt_inj.mp (q.trans (by decide : (18 : Int) = (18 : Int32).toInt)))
      have u19 : ¬ t.toInt = 19 := fun q => t19 (Int32.toInt_inj.mp (q.trans (by decide : (19 : Int) = (19 : Int32).toInt)))
      have u20 : ¬ t.toInt = 20 := fun q => t20 (Int32.toInt_inj.mp (q.trans (by decide : (20 : Int) = (20 : Int32).toInt)))
      have u21 : ¬ t.toInt = 21 := fun q => t21 (Int32.toInt_inj.mp (q.trans (by decide : (21 : Int) = (21 : Int32).toInt)))
      have u22 : ¬ t.toInt = 22 := fun q => t22 (Int32.toInt_inj.mp (q.trans (by decide : (22 : Int) = (22 : Int32).toInt)))
      have u23 : ¬ t.toInt = 23 := fun q => t23 (Int32.toInt_inj.mp (q.trans (by decide : (23 : Int) = (23 : Int32).toInt)))
      have u24 : ¬ t.toInt = 24 := fun q => t24 (Int32.toInt_inj.mp (q.trans (by decide : (24 : Int) = (24 : Int32).toInt)))
      have u25 : ¬ t.toInt = 25 := fun q => t25 (Int32.toInt_inj.mp (q.trans (by decide : (25 : Int) = (25 : Int32).toInt)))
      have u26 : ¬ t.toInt = 26 := fun q => t26 (Int32.toInt_inj.mp (q.trans (by decide : (26 : Int) = (26 : Int32).toInt)))
      refine lv_tableOut (tgt := 1803) hx hb dL_law_44 (by omega) (by decide) ?_
      refine W.widen (k := cells + 8) (n := slots + 242) (by omega) (by omega) ?_
      exact tail ws H locs ls hI hP hD hS hl
def F0s : Nat → Nat → Int32 := fun k => if k = 19 then fill (-1 : Int32) 48 else if k = 26 then fill (4 : Int32) 12 else fun _ => 0
def own0 (k : Nat) : Nat := if k = 0 then 8 else if k = 1 then 1 else if k < 5 then 2 else if k = 5 then 3 else if k < 9 then 4 else if k = 9 then 5 else if k = 10 then 6 else if k = 11 then 7 else 0
set_option maxHeartbeats 4000000 in
set_option maxRecDepth 100000 in
/-- at the start all of it holds -/
theorem INV_start (cI cO cJ cB : ClassId) (tE v am oj od : Nat) (ad adm : Nat → Nat) : INV cI cO cJ cB tE v am oj od ([(v, .inr (8, [.ref (ad 1), .ref (ad 2), .ref (ad 5), .ref (ad 6), .ref (ad 9), .ref (ad 10), .ref (ad 11)])), ((ad 1), .inr (0, [.int 0, .ref tE, .int 0])), ((ad 2), .inr (4, [.ref (ad 3), .ref (ad 4), .int 0, .int 0, .int 0])), ((ad 3), .inl (cI, 48, .inl (fun _ => 0))), ((ad 4), .inl (cI, 20, .inl (fill (-1 : Int32) 20))), ((ad 5), .inr (0, [.int 0, .ref tE, .int 0])), ((ad 6), .inr (2, [.ref (ad 7), .ref (ad 8), .int 0, .int 0, .int 0, .long 0, .long 0])), ((ad 7), .inl (cI, 12, .inl (fill (4 : Int32) 12))), ((ad 8), .inl (cI, 12, .inl (fun _ => 0))), ((ad 9), .inr (3, [.int 300, .int 700, .int 0])), ((ad 10), .inr (0, [.int 0, .ref tE, .int 0])), ((ad 11), .inr (0, [.int 0, .ref tE, .int 0])), (am, .inr (9, mF adm z0 0 0)), (adm 13, .inl (cI, 8, .inl (fun _ => 0))), (adm 14, .inl (cI, 8, .inl (fun _ => 0))), (adm 15, .inl (cI, 8, .inl (fun _ => 0))), (adm 16, .inl (cI, 8, .inl (fun _ => 0))), (adm 17, .inl (cI, 8, .inl (fun _ => 0))), (adm 18, .inl (cI, 48, .inl (fun _ => 0))), (adm 19, .inl (cI, 48, .inl (fill (-1 : Int32) 48))), (adm 20, .inl (cI, 20, .inl (fun _ => 0))), (adm 21, .inl (cI, 6, .inl (fun _ => 0))), (adm 22, .inl (cI, 6, .inl (fun _ => 0))), (adm 23, .inl (cI, 6, .inl (fun _ => 0))), (adm 24, .inl (cI, 6, .inl (fun _ => 0))), (adm 25, .inl (cI, 6, .inl (fun _ => 0))), (adm 26, .inl (cI, 12, .inl (fill (4 : Int32) 12))), (adm 27, .inl (cI, 12, .inl (fun _ => 0))), (adm 28, .inl (cI, 60, .inl (fun _ => 0))), (adm 29, .inl (cI, 60, .inl (fun _ => 0))), (adm 30, .inl (cI, 60, .inl (fun _ => 0))), (adm 31, .inl (cI, 8, .inl (fun _ => 0))), (adm 32, .inl (cI, 8, .inl (fun _ => 0))), (adm 33, .inl (cI, 8, .inl (fun _ => 0))), (adm 34, .inl (cI, 8, .inl (fun _ => 0))), (adm 35, .inl (cI, 56, .inl (fun _ => 0))), (oj, .inl (cJ, 1, .inr (.inl (fun _ => 0)))), (od, .inl (cB, 1, .inr (.inr (.inr (.inl (fun _ => 0))))))] : va_W) := by
  have hfill : ∀ (x : Int32) (n k : Nat), k < n → fill x n k = x := fun x n k h => if_pos h
  refine ⟨own0, adm, z0, F0s, 0, 0, (ad 1, ad 2, ad 5, ad 6, ad 9, ad 10, ad 11), 0, ⟨rfl, fun k h1 h2 => ?_, ⟨_, rfl⟩, ⟨_, rfl⟩⟩, rfl, rfl, fun k h1 h2 => ?_, fun j hj => ?_⟩
  · obtain ⟨j, rfl⟩ : ∃ j, k = 13 + j := ⟨k - 13, by omega⟩
    match j, h2 with
    | 0, _ => rfl
    | 1, _ => rfl
    | 2, _ => rfl
    | 3, _ => rfl
    | 4, _ => rfl
    | 5, _ => rfl
    | 6, _ => rfl
    | 7, _ => rfl
    | 8, _ => rfl
    | 9, _ => rfl
    | 10, _ => rfl
    | 11, _ => rfl
    | 12, _ => rfl
    | 13, _ => rfl
    | 14, _ => rfl
    | 15, _ => rfl
    | 16, _ => rfl
    | 17, _ => rfl
    | 18, _ => rfl
    | 19, _ => rfl
    | 20, _ => rfl
    | 21, _ => rfl
    | 22, _ => rfl
    | j + 23, h2 => omega
  · unfold own0
    rw [if_neg (by omega), if_neg (by omega), if_neg (by omega), if_neg (by omega), if_neg (by omega), if_neg (by omega), if_neg (by omega), if_neg (by omega)]
  · have hj7 : j = 1 ∨ j = 2 ∨ j = 3 ∨ j = 4 ∨ j = 5 ∨ j = 6 ∨ j = 7 := by omega
    have hL0 : ∀ {id pl al ci : Nat} {vs : Nat → List Value} {ws : va_W}, ws[pl]? = some (al, .inr (0, [.int 0, .ref tE, .int 0])) → own0 pl = id → pfL own0 ws tE cO id pl al 0 0 (fun _ => 0) (fun _ => 0) ci vs := fun h o => ⟨⟨0, Or.inl ⟨rfl, h⟩⟩, o, fun q => absurd q (Nat.lt_irrefl 0), fun i hi => absurd hi (Nat.not_lt_zero i), fun i _ hi => absurd hi (Nat.not_lt_zero i)⟩
    rcases hj7 with rfl | rfl | rfl | rfl | rfl | rfl | rfl
    · exact ⟨0, 0, fun _ => 0, fun _ => 0, hL0 rfl rfl, by decide, rfl, fun i hi => absurd hi (Nat.not_lt_zero i), fun i _ => ⟨rfl, rfl⟩⟩
    · refine ⟨ad 3, ad 4, 0, fill (-1 : Int32) 20, rfl, rfl, rfl, rfl, rfl, rfl, rfl, ⟨by decide, fun k hk => absurd hk (Nat.not_lt_zero k), fun k _ hk => hfill _ _ _ hk, fun k hk => absurd hk (Nat.not_lt_zero k), fun c hc => Or.inl (hfill (-1) 48 c hc)⟩, fun j _ => ?_⟩
      show ¬ uK (0 : Int32) 48
      decide
    · exact ⟨0, 0, fun _ => 0, fun _ => 0, hL0 rfl rfl, by decide, rfl, fun i hi => absurd hi (Nat.not_lt_zero i), fun k i h1 h2 _ => by unfold F0s; rw [if_neg (by omega), if_neg (by omega)]⟩
    · exact ⟨7, 8, ad 7, ad 8, fill (4 : Int32) 12, fun _ => 0, 0, 0, 0, 0, 0, rfl, rfl, rfl, by decide, rfl, rfl, rfl, fun k _ => rfl, rfl, rfl, Or.inl rfl, rfl, rfl, rfl⟩
    · exact ⟨rfl, rfl, 0, by decide, rfl⟩
    · exact ⟨0, fun _ => 0, fun _ => 0, hL0 rfl rfl, by decide, rfl⟩
    · exact ⟨0, 0, fun _ => 0, fun _ => 0, fun _ => 0, fun _ => 0, fun _ _ => 0, hL0 rfl rfl, fun i hi => absurd hi (Nat.not_lt_zero i), fun i _ hi => absurd hi (Nat.not_lt_zero i), fun i hi => absurd hi (Nat.not_lt_zero i), fun j _ => rfl, by decide, rfl, fun i hi => absurd hi (Nat.not_lt_zero i)⟩
set_option maxHeartbeats 4000000 in
set_option maxRecDepth 100000 in
/-- YOUR PART: from the entry, for every script of at most 2048 ints, the law comes to its end with true -/
theorem whole_start {p : Program} {e : Env} {s : State} {m : MethodId} {below : List Frame} {meth : Method} {c : Code} (l : Launch) (hflags : l.flags = flags0) {b L : Nat} {xs : Nat → Int32} (hL : L ≤ 2048) (C0 : lw_At p s m meth c b L xs) : W p l e room_1 s m #[Value.ref b] below meth c s.heap [] 0 0 (lw_Z below #[Value.ref b] s) (entryFrame m ([Value.ref b] : List Value).toArray 10) := by
  have hnt : l.stackTraces = false := by unfold Launch.stackTraces; rw [hflags]; decide +kernel
  have C1 := C0
  obtain ⟨hx, hb, hr, hml, hown, hts0, hX, hbl, hlocks, hgv⟩ := C1
  have hts : ∀ w ∈ wsL_law, w.before #[Value.ref b] s = true := fun w h => hts0 w (wsL_law_in w h)
  have hown : s.vm.findClass RL = some m.cls := hown
  have hA : ∀ q : Nat, s.heap.size ≤ q → (fun q : Nat => s.heap.size ≤ q) q := fun _ h => h
  obtain ⟨tE, mi, hE⟩ := env_start C0
  obtain ⟨G, cI, cO, cJ, cB, hK⟩ := K_start hts0
  obtain ⟨tys, htys⟩ : ∃ t : List (ClassId × FieldType), t = [(cI, .int), (cO, .object "java/lang/Object"), (cJ, .long), (cB, .double)] := ⟨_, rfl⟩
  rw [← htys] at hK
  have htI : tI tys cI := by rw [htys]; rfl
  have htO : tO tys cO := by rw [htys]; rfl
  have htJ : tys[2]? = some (cJ, .long) := by rw [htys]; rfl
  have htB : tys[3]? = some (cB, .double) := by rw [htys]; rfl
  have hS : va_S (fun q : Nat => s.heap.size ≤ q) s.heap s.heap [] := va_S.rf
  have hP : va_P G vwCl [] s.heap := fun k q h => by simp at h
  have hD : va_D (fun q : Nat => s.heap.size ≤ q) [] := ⟨fun i j p q h => by simp at h, fun k q h => by simp at h⟩
  have hl := lv_entry ([.ref b]) (n := 10) (Nat.le_of_ble_eq_true rfl)
  rw [lg_entry_eq]
  generalize (lg_sl ([.ref b]) ++ List.replicate (10 - (lg_sl ([.ref b])).length) Slot.unset).toArray = ls at hl ⊢
  have hl : lv_has ls 10 [(0, .ref b)] := hl
  refine va_new (D := G) (ci := 8) (fs := [.null, .null, .null, .null, .null, .null, .null]) (C := RX7) (T := TX7) (N := 7) hx hb hts inlX7 tyX7 tyX7_ok hown (hts0 (.classLink RL 8 RX7) (by decide +kernel)) (hts0 (.instantiable RX7 7) (by decide +kernel)) (hts0 (.initialized RX7) (by decide +kernel)) hK hP hD hS hA rfl (fun j hj => by rcases (show j = 0 ∨ j = 1 ∨ j = 2 ∨ j = 3 ∨ j = 4 ∨ j = 5 ∨ j = 6 by omega) with rfl | rfl | rfl | rfl | rfl | rfl | rfl <;> rfl) (Nat.le_of_ble_eq_true rfl) (Nat.le_of_ble_eq_true rfl) dL_law_0 (fun v H hP hD hS => ?_)
  have hP : va_P G vwCl [(v, .inr (8, [.null, .null, .null, .null, .null, .null, .null]))] H := hP
  have hD : va_D (fun q : Nat => s.heap.size ≤ q) [(v, .inr (8, [.null, .null, .null, .null, .null, .null, .null]))] := hD
  refine lv_dup hx hb dL_law_3 rfl ?_
  refine va_callv (va_runI (As := []) (rest := [.ref v]) ⟨hx, hb, hml, hown, hts⟩ (metX7_init l G tys (mi := mi) htI) (cwI 0 hts gL_law_X7_init rfl rfl rfl (hts0 (.initialized RX7) (by decide +kernel)) (hts0 (.methodLink RL 94 yX7_init) (by decide +kernel)) (hts0 (.instanceMethod yX7_init) (by decide +kernel)) rfl (by decide +kernel) ⟨Nat.le_of_ble_eq_true rfl, Nat.le_of_ble_eq_true rfl⟩) ⟨pcX_b, pcX_u hP hK hD hS hA hE⟩ rfl rfl hl.1 rfl (lv_room (Nat.le_of_ble_eq_true rfl)) dL_law_4 ⟨Nat.le_of_ble_eq_true rfl, Nat.le_of_ble_eq_true rfl⟩) hS (fun q _ h => h) (fun q h => h) (fun ad t H locs ht hvm hu hB hsz hk1 hS => ?_)
  rw [ht] at hB
  obtain ⟨hP, hD⟩ := hB
  refine lv_astore_n (lv' := [(1, .ref v), (0, .ref b)]) hx hb dL_law_7 rfl hl (by decide) rfl (fun ls hl => ?_)
  refine va_new (D := G) (ci := 9) (fs := [.int 0, .int 0, .null, .null, .null, .null, .null, .null, .null, .int 0, .null, .int 0, .int 0, .int 0, .null, .null, .null, .null, .null, .null, .null, .int 0, .int 0, .int 0, .long 0, .long 0, .int 0, .int 0, .int 0, .int 0, .null, .null, .null, .int 0, .null, .null, .null, .null, .null]) (C := RX8) (T := TX8) (N := 39) hx hb hts inlX8 tyX8 tyX8_ok hown (hts0 (.classLink RL 95 RX8) (by decide +kernel)) (hts0 (.instantiable RX8 39) (by decide +kernel)) (hts0 (.initialized RX8) (by decide +kernel)) hK hP hD hS hA rfl (fun j hj => by
    match j, hj with
    | 0, _ => rfl
    | 1, _ => rfl
    | 2, _ => rfl
    | 3, _ => rfl
    | 4, _ => rfl
    | 5, _ => rfl
    | 6, _ => rfl
    | 7, _ => rfl
    | 8, _ => rfl
    | 9, _ => rfl
    | 10, _ => rfl
    | 11, _ => rfl
    | 12, _ => rfl
    | 13, _ => rfl
    | 14, _ => rfl
    | 15, _ => rfl
    | 16, _ => rfl
    | 17, _ => rfl
    | 18, _ => rfl
    | 19, _ => rfl
    | 20, _ => rfl
    | 21, _ => rfl
    | 22, _ => rfl
    | 23, _ => rfl
    | 24, _ => rfl
    | 25, _ => rfl
    | 26, _ => rfl
    | 27, _ => rfl
    | 28, _ => rfl
    | 29, _ => rfl
    | 30, _ => rfl
    | 31, _ => rfl
    | 32, _ => rfl
    | 33, _ => rfl
    | 34, _ => rfl
    | 35, _ => rfl
    | 36, _ => rfl
    | 37, _ => rfl
    | 38, _ => rfl
    | j + 39, hj => omega) (Nat.le_of_ble_eq_true rfl) (Nat.le_of_ble_eq_true rfl) dL_law_8 (fun am H hP hD hS => ?_)
  have hP : va_P G vwCl ([(v, .inr (8, [.ref (ad 1), .ref (ad 2), .ref (ad 5), .ref (ad 6), .ref (ad 9), .ref (ad 10), .ref (ad 11)])), ((ad 1), .inr (0, [.int 0, .ref tE, .int 0])), ((ad 2), .inr (4, [.ref (ad 3), .ref (ad 4), .int 0, .int 0, .int 0])), ((ad 3), .inl (cI, 48, .inl (fun _ => 0))), ((ad 4), .inl (cI, 20, .inl (fill (-1 : Int32) 20))), ((ad 5), .inr (0, [.int 0, .ref tE, .int 0])), ((ad 6), .inr (2, [.ref (ad 7), .ref (ad 8), .int 0, .int 0, .int 0, .long 0, .long 0])), ((ad 7), .inl (cI, 12, .inl (fill (4 : Int32) 12))), ((ad 8), .inl (cI, 12, .inl (fun _ => 0))), ((ad 9), .inr (3, [.int 300, .int 700, .int 0])), ((ad 10), .inr (0, [.int 0, .ref tE, .int 0])), ((ad 11), .inr (0, [.int 0, .ref tE, .int 0])), (am, .inr (9, [.int 0, .int 0, .null, .null, .null, .null, .null, .null, .null, .int 0, .null, .int 0, .int 0, .int 0, .null, .null, .null, .null, .null, .null, .null, .int 0, .int 0, .int 0, .long 0, .long 0, .int 0, .int 0, .int 0, .int 0, .null, .null, .null, .int 0, .null, .null, .null, .null, .null]))] : va_W) H := hP
  have hD : va_D (fun q : Nat => s.heap.size ≤ q) ([(v, .inr (8, [.ref (ad 1), .ref (ad 2), .ref (ad 5), .ref (ad 6), .ref (ad 9), .ref (ad 10), .ref (ad 11)])), ((ad 1), .inr (0, [.int 0, .ref tE, .int 0])), ((ad 2), .inr (4, [.ref (ad 3), .ref (ad 4), .int 0, .int 0, .int 0])), ((ad 3), .inl (cI, 48, .inl (fun _ => 0))), ((ad 4), .inl (cI, 20, .inl (fill (-1 : Int32) 20))), ((ad 5), .inr (0, [.int 0, .ref tE, .int 0])), ((ad 6), .inr (2, [.ref (ad 7), .ref (ad 8), .int 0, .int 0, .int 0, .long 0, .long 0])), ((ad 7), .inl (cI, 12, .inl (fill (4 : Int32) 12))), ((ad 8), .inl (cI, 12, .inl (fun _ => 0))), ((ad 9), .inr (3, [.int 300, .int 700, .int 0])), ((ad 10), .inr (0, [.int 0, .ref tE, .int 0])), ((ad 11), .inr (0, [.int 0, .ref tE, .int 0])), (am, .inr (9, [.int 0, .int 0, .null, .null, .null, .null, .null, .null, .null, .int 0, .null, .int 0, .int 0, .int 0, .null, .null, .null, .null, .null, .null, .null, .int 0, .int 0, .int 0, .long 0, .long 0, .int 0, .int 0, .int 0, .int 0, .null, .null, .null, .int 0, .null, .null, .null, .null, .null]))] : va_W) := hD
  refine lv_dup hx hb dL_law_11 rfl ?_
  refine va_callv (va_runI (As := []) (rest := [.ref am]) ⟨hx, hb, hml, hown, hts⟩ (metX8_init l G tys htI (v, .inr (8, [.ref (ad 1), .ref (ad 2), .ref (ad 5), .ref (ad 6), .ref (ad 9), .ref (ad 10), .ref (ad 11)])) ((ad 1), .inr (0, [.int 0, .ref tE, .int 0])) ((ad 2), .inr (4, [.ref (ad 3), .ref (ad 4), .int 0, .int 0, .int 0])) ((ad 3), .inl (cI, 48, .inl (fun _ => 0))) ((ad 4), .inl (cI, 20, .inl (fill (-1 : Int32) 20))) ((ad 5), .inr (0, [.int 0, .ref tE, .int 0])) ((ad 6), .inr (2, [.ref (ad 7), .ref (ad 8), .int 0, .int 0, .int 0, .long 0, .long 0])) ((ad 7), .inl (cI, 12, .inl (fill (4 : Int32) 12))) ((ad 8), .inl (cI, 12, .inl (fun _ => 0))) ((ad 9), .inr (3, [.int 300, .int 700, .int 0])) ((ad 10), .inr (0, [.int 0, .ref tE, .int 0])) ((ad 11), .inr (0, [.int 0, .ref tE, .int 0]))) (cwI 0 hts gL_law_X8_init rfl rfl rfl (hts0 (.initialized RX8) (by decide +kernel)) (hts0 (.methodLink RL 97 yX8_init) (by decide +kernel)) (hts0 (.instanceMethod yX8_init) (by decide +kernel)) rfl (by decide +kernel) ⟨Nat.le_of_ble_eq_true rfl, Nat.le_of_ble_eq_true rfl⟩) ⟨pcM_b, pcM_u hP hK hD hS hA⟩ rfl rfl hl.1 rfl (lv_room (Nat.le_of_ble_eq_true rfl)) dL_law_12 ⟨Nat.le_of_ble_eq_true rfl, Nat.le_of_ble_eq_true rfl⟩) hS (fun q _ h => h) (fun q h => h) (fun adm t H locs ht hvm hu hB hsz hk1 hS => ?_)
  rw [ht] at hB
  obtain ⟨hP, hD⟩ := hB
  refine lv_astore_n (lv' := [(2, .ref am), (1, .ref v), (0, .ref b)]) hx hb dL_law_15 rfl hl (by decide) rfl (fun ls hl => ?_)
  refine lv_iconst (v := 1) hx hb dL_law_16 (by decide) ?_
  refine va_newa (atype := .long) (n := 1) (N' := 1) (a0 := (1, .inr (.inl (fun _ => 0)))) hx hb (hts0 (.arrayClass .long) (by decide +kernel)) rfl hK hP hD hS hA (fun _ => rfl) (by decide) (by decide) (by decide) (Nat.le_of_ble_eq_true rfl) (Nat.le_of_ble_eq_true rfl) dL_law_17 (fun oj cA H hK2 hP hD hS => ?_)
  have hz2 : (tys ++ [(cA, FieldType.long)])[tys.length]? = some (cA, .long) := by simp
  have hcA : cA = cJ := Option.some.inj ((va_nm_long (hK2.2 tys.length _ hz2).2).symm.trans (va_nm_long (hK.2 2 _ htJ).2))
  rw [hcA] at hP hD
  refine lv_astore_n (lv' := [(3, .ref oj), (2, .ref am), (1, .ref v), (0, .ref b)]) hx hb dL_law_19 rfl hl (by decide) rfl (fun ls hl => ?_)
  refine lv_iconst (v := 1) hx hb dL_law_20 (by decide) ?_
  refine va_newa (atype := .double) (n := 1) (N' := 1) (a0 := (1, .inr (.inr (.inr (.inl (fun _ => 0)))))) hx hb (hts0 (.arrayClass .double) (by decide +kernel)) rfl hK hP hD hS hA (fun _ => rfl) (by decide) (by decide) (by decide) (Nat.le_of_ble_eq_true rfl) (Nat.le_of_ble_eq_true rfl) dL_law_21 (fun od cA2 H hK3 hP hD hS => ?_)
  have hz3 : (tys ++ [(cA2, FieldType.double)])[tys.length]? = some (cA2, .double) := by simp
  have hcA2 : cA2 = cB := Option.some.inj ((va_nm_double (hK3.2 tys.length _ hz3).2).symm.trans (va_nm_double (hK.2 3 _ htB).2))
  rw [hcA2] at hP hD
  refine lv_astore (lv' := [(4, .ref od), (3, .ref oj), (2, .ref am), (1, .ref v), (0, .ref b)]) hx hb dL_law_23 hl (by decide) rfl (fun ls hl => ?_)
  refine lv_iconst (v := 0) hx hb dL_law_25 (by decide) ?_
  refine lv_istore (lv' := [(5, .int (nI 0)), (4, .ref od), (3, .ref oj), (2, .ref am), (1, .ref v), (0, .ref b)]) hx hb dL_law_26 hl (by decide) rfl (fun ls hl => ?_)
  refine W.widen (k := 100) (n := 1000) (Nat.le_of_ble_eq_true rfl) (Nat.le_of_ble_eq_true rfl) ?_
  exact law_loop hnt htI htO htJ htB hL C0 hK hE (L + 1) 0 (nI 0) 100 1000 ([(v, .inr (8, [.ref (ad 1), .ref (ad 2), .ref (ad 5), .ref (ad 6), .ref (ad 9), .ref (ad 10), .ref (ad 11)])), ((ad 1), .inr (0, [.int 0, .ref tE, .int 0])), ((ad 2), .inr (4, [.ref (ad 3), .ref (ad 4), .int 0, .int 0, .int 0])), ((ad 3), .inl (cI, 48, .inl (fun _ => 0))), ((ad 4), .inl (cI, 20, .inl (fill (-1 : Int32) 20))), ((ad 5), .inr (0, [.int 0, .ref tE, .int 0])), ((ad 6), .inr (2, [.ref (ad 7), .ref (ad 8), .int 0, .int 0, .int 0, .long 0, .long 0])), ((ad 7), .inl (cI, 12, .inl (fill (4 : Int32) 12))), ((ad 8), .inl (cI, 12, .inl (fun _ => 0))), ((ad 9), .inr (3, [.int 300, .int 700, .int 0])), ((ad 10), .inr (0, [.int 0, .ref tE, .int 0])), ((ad 11), .inr (0, [.int 0, .ref tE, .int 0])), (am, .inr (9, mF adm z0 0 0)), (adm 13, .inl (cI, 8, .inl (fun _ => 0))), (adm 14, .inl (cI, 8, .inl (fun _ => 0))), (adm 15, .inl (cI, 8, .inl (fun _ => 0))), (adm 16, .inl (cI, 8, .inl (fun _ => 0))), (adm 17, .inl (cI, 8, .inl (fun _ => 0))), (adm 18, .inl (cI, 48, .inl (fun _ => 0))), (adm 19, .inl (cI, 48, .inl (fill (-1 : Int32) 48))), (adm 20, .inl (cI, 20, .inl (fun _ => 0))), (adm 21, .inl (cI, 6, .inl (fun _ => 0))), (adm 22, .inl (cI, 6, .inl (fun _ => 0))), (adm 23, .inl (cI, 6, .inl (fun _ => 0))), (adm 24, .inl (cI, 6, .inl (fun _ => 0))), (adm 25, .inl (cI, 6, .inl (fun _ => 0))), (adm 26, .inl (cI, 12, .inl (fill (4 : Int32) 12))), (adm 27, .inl (cI, 12, .inl (fun _ => 0))), (adm 28, .inl (cI, 60, .inl (fun _ => 0))), (adm 29, .inl (cI, 60, .inl (fun _ => 0))), (adm 30, .inl (cI, 60, .inl (fun _ => 0))), (adm 31, .inl (cI, 8, .inl (fun _ => 0))), (adm 32, .inl (cI, 8, .inl (fun _ => 0))), (adm 33, .inl (cI, 8, .inl (fun _ => 0))), (adm 34, .inl (cI, 8, .inl (fun _ => 0))), (adm 35, .inl (cI, 56, .inl (fun _ => 0))), (oj, .inl (cJ, 1, .inr (.inl (fun _ => 0)))), (od, .inl (cB, 1, .inr (.inr (.inr (.inl (fun _ => 0))))))] : va_W) H _ ls (Nat.zero_le L) (by omega) rfl (by omega) (by omega) (INV_start cI cO cJ cB tE v am oj od ad adm) hP hD hS (lv_sub hl [5, 4, 3, 2, 1, 0] rfl)
set_option maxHeartbeats 4000000 in
theorem lw_walk (l : Launch) (hflags : l.flags = flags0) (b : Addr) (xs : List Int32) : MetFree l x (headSpec (Jvm.Cond.code x code maxLocals ret :: tables_1) room_1) (lw_P b xs) (fun _ _ _ _ _ => True) lw_Q := by
  refine MetFree.of_bodyS (code := code) (maxLocals := maxLocals) (ret := ret) (by decide) ?_ ?_
  · intro args s m h hn
    obtain ⟨meth, c, h1, h2, h3, h4, h5, h6, -, -⟩ := Cond.code_spec hn (atoms_spec (ws := Jvm.Cond.code x code maxLocals ret :: tables_1) h _ List.mem_cons_self)
    exact ⟨meth, c, h1, h2, h3, h4, h5, h6⟩
  · intro p e s m args below meth c s₁ B hml0 hP _
    obtain ⟨rfl, hx, hbd, hgv⟩ := hP
    obtain ⟨scr, harrAt, hlist, hof, hsmall⟩ := hx
    obtain ⟨hcb, hkn, -, -⟩ := State.arrayAt?_spec harrAt
    have hown : s.vm.findClass R_law = some m.cls := findClass_of_methodNamed B.named
    have hts0 : ∀ c ∈ (Jvm.Cond.code x code maxLocals ret :: tables_1), c.before #[Value.ref b] s = true := atoms_spec (ws := Jvm.Cond.code x code maxLocals ret :: tables_1) B.pre
    have hts : ∀ w ∈ lw_tbl, w.before #[Value.ref b] s = true := k2_hts_sels lw_privs (fun w hw => hts0 w (List.mem_cons_of_mem _ hw)) lw_privs_ok
    have hml : c.maxLocals = 10 := B.maxLocals_eq (hts0 _ List.mem_cons_self)
    have X₀ : Stand p l e room_1 s m #[Value.ref b] below meth c s₁ [] 0 0 := Stand.of_body B
    have hh0 : s₁.heap = s.heap := by rw [B.state]; rfl
    have hsz : scr.slots.size = xs.length := by rw [← Array.length_toList, hlist, List.length_map]
    have hval : ∀ j : Nat, j < xs.length → scr.slots[j]? = some (.int (xs.getD j 0)) := fun j hj => by
      rw [← Array.getElem?_toList, hlist]
      simp [hj]
    have hbl : b < s.heap.size := (Array.getElem?_eq_some_iff.mp hcb).1
    have hX : va_X b xs.length (fun j => xs.getD j 0) s s.heap := ⟨scr, hcb, hof, hkn, hsz, hval⟩
    have K : W p l e room_1 s m #[Value.ref b] below meth c s₁.heap [] 0 0 (lw_Z below #[Value.ref b] s) (entryFrame m ([Value.ref b] : List Value).toArray 10) := by
      rw [hh0]
      exact whole_start l hflags hbd ⟨B.exec, B.bytes, B.returns, hml, hown, hts, hX, hbl, B.notSynchronized, hgv⟩
    obtain ⟨t, a1, o, b1, b2, b3⟩ := K s₁ rfl X₀
    exact ⟨t, o, a1, b1, b2, b3⟩
theorem lw_pre_spec {args : Array Value} {s : State} (h : (Jvm.Cond.and given_1 narrow_1).before args s = true) (hr : rest_1_c.before args s = true) : ∃ (b : Addr) (xs : List Int32), lw_P b xs args s := by
  have hs := flat_of_before _ h
  have hq := flat_of_before _ hr
  have hc : (Cond.count 1).before args s = true := hs _ (by decide +kernel)
  have harr : (Cond.arrayOf (.arg 0) .int).before args s = true := hs _ (by decide +kernel)
  have hle : (Cond.le (.length (.arg 0)) (.int 2048)).before args s = true := hs _ (by decide +kernel)
  have hlen : (Cond.isInt (.length (.arg 0))).before args s = true := hq _ (by decide +kernel)
  have hall : (Cond.all (.arg 0) (.isInt (.elem (.arg 0) (.index 0)))).before args s = true := hq _ (by decide +kernel)
  obtain ⟨b, xs, hb, hx⟩ := State.ints_of_pre rfl harr hlen hall
  have hsm : xs.length < 2 ^ 31 := hx.choose_spec.2.2.2
  have hev : (Term.length (.arg 0)).eval args s none [] s = some (.int xs.length.toInt32) := hx.length_eval hb
  have hv := Cond.le_ints hev (show (Term.int 2048).eval args s none [] s = some (.int 2048) from rfl)
  have hd : xs.length.toInt32 ≤ 2048 := by
    simpa [Cond.before, Cond.holds, hv] using hle
  have hN : xs.length ≤ 2048 := (Int32.ofNat_le_ofNat hsm (by decide)).mp (show Int32.ofNat xs.length ≤ Int32.ofNat 2048 from hd)
  exact ⟨b, xs, Cond.one_arg hc (show args[0]? = some (.ref b) from hb), hx, hN, h⟩
theorem lw_comes (l : Launch) (hflags : l.flags = flags0) : Comes l x (Jvm.Cond.code x code maxLocals ret :: tables_1) room_1 (fun tb e args s => Calls_1 tb e args s ∧ rest_1 tb e args s ∧ Pre_1 tb e args s)
    (fun _ _ args s o t => lw_Q args s o t) := by
  intro p e ha hc hk s m args below hf hfit hheap happ hpre
  obtain ⟨b, xs, hP⟩ := lw_pre_spec hpre.2.2 hpre.2.1
  obtain ⟨k, o, h1, h2, h3, hQ⟩ := lw_walk l hflags b xs p e ha hc hk s m args below hf ((Spec.applies_iff_loose hf).mp happ).1 hP trivial
  exact ⟨k, o, h1, h2, h3, hQ⟩
theorem lw_frame {s t : State} {o : Outcome} {args : Array Value} (h : State.butDraws s t lw_cs (fun t1 => Framed s o t1 [] 601024 7293034)) :
    State.butDraws s t [Jvm.Choice.named "NaN.bits"] (fun t1 => Framed s o t1 (fieldLocs frame_1_writes args s ++ arrayLocs frame_1_arrays args s ++ staticLocs frame_1_statics s) 601024 7293034) := h
theorem lw_limb (L : Cond) (hL : ∀ (args : Array Value) (s t : State), L.after args s (.returned (some (.int 1))) t = true) :
    ArmFor flags0 classFile x code maxLocals ret World_1 tables_1 room_1 Calls_1 rest_1 Pre_1
      (fun tb e a s o t => postC L tb e a s o t ∧ State.butDraws s t [Jvm.Choice.named "NaN.bits"] (fun t1 => Framed s o t1 (fieldLocs frame_1_writes a s ++ arrayLocs frame_1_arrays a s ++ staticLocs frame_1_statics s) 601024 7293034)) := by
  intro l hflags _ _ p e ha hc hk s m args below hf hfit hheap happ hpre
  obtain ⟨k, o, h1, h2, h3, rfl, hF⟩ := lw_comes l hflags p e ha hc hk s m args below hf hfit hheap happ hpre
  exact ⟨k, _, h1, h2, h3, hL args s _, lw_frame hF⟩
theorem i_vc : Claimed_1_1 ∧ Claimed_1_2 := ⟨lw_limb limb_1_1 (fun args s t => by simp [limb_1_1, Cond.after, Cond.holds, Cond.value]), lw_limb limb_1_2 (fun args s t => Cond.after_iff.mpr (by
  first | (rw [show limb_1_2 = Cond.eq .result (.int 1) from rfl, Cond.eq_ints (x := 1) (y := 1) rfl rfl]; simp; done) | (simp [limb_1_2, Cond.value, Term.eval]; done)))⟩
