set_option maxHeartbeats 4000000 in
set_option maxRecDepth 100000 in
theorem act_5 {p : Program} {l : Launch} {e : Env} {s : State} {m : MethodId} {below : List Frame} {meth : Method} {c : Code} (hnt : l.stackTraces = false) {G : va_G} {tys : List (ClassId × FieldType)} {tE mi : Nat} {cI cO : ClassId} (htI : tI tys cI) (htO : tO tys cO) {b L : Nat} {xs : Nat → Int32} (hL : L ≤ 260) (C0 : lw_At p s m meth c b L xs) {ad : Nat → Nat} (hK : va_K G vwCl tys s) (hE : env (fun q : Nat => s.heap.size ≤ q) tE mi s s.heap) {ind cr : Int32} {n np tu X : Nat} {al : Int64} {y15 : Int32} {ws : va_W} {H : Heap} {locs : List Loc} {cells slots : Nat} {Q : State → Prop} {ls : Array Slot} (hX31 : X < 2 ^ 31) (hti : ti cI cO tE ad ind cr n np al ws) (hP : va_P G vwCl ws H) (hD : va_D (fun q : Nat => s.heap.size ≤ q) ws) (hS : va_S (fun q : Nat => s.heap.size ≤ q) s.heap H locs) (hl : lv_has ls 26 [(0, .ref b), (1, .ref (ad 0)), (2, .ref (ad 12)), (3, .ref (ad 13)), (4, .ref (ad 14)), (5, .ref (ad 15)), (6, .ref (ad 16)), (7, .int (nI np)), (8, .int (nI n)), (9, .long al), (12, .int ind), (13, .int cr), (14, .int (nI tu)), (11, .int (nI X)), (15, .int y15)]) (hc : cells + 60 ≤ 600130) (hs : slots + 1200 ≤ 7301080) (kk : ∀ (n2 np2 : Nat) (al2 : Int64) (w : va_W) (H1 : Heap) (locs1 : List Loc) (ls1 : Array Slot), ti cI cO tE ad ind cr n2 np2 al2 w → va_P G vwCl w H1 → va_D (fun q : Nat => s.heap.size ≤ q) w → va_S (fun q : Nat => s.heap.size ≤ q) s.heap H1 locs1 → lv_has ls1 26 [(0, .ref b), (1, .ref (ad 0)), (2, .ref (ad 12)), (3, .ref (ad 13)), (4, .ref (ad 14)), (5, .ref (ad 15)), (6, .ref (ad 16)), (7, .int (nI np2)), (8, .int (nI n2)), (9, .long al2), (12, .int ind), (13, .int cr), (14, .int (nI tu))] → W p l e room_1 s m #[Value.ref b] below meth c H1 locs1 (cells + 60) (slots + 1200) Q (F0 m 661 ls1 [])) : W p l e room_1 s m #[Value.ref b] below meth c H locs (cells) (slots) Q (F0 m 396 ls []) := by
  obtain ⟨hx, hb, hr, hml, hown, hts0, hX, hbl, hlocks, hgv⟩ := C0
  have hts : ∀ w ∈ wsL_law, w.before #[Value.ref b] s = true := fun w h => hts0 w (wsL_law_in w h)
  have hown : s.vm.findClass RL = some m.cls := hown
  have hA : ∀ q : Nat, s.heap.size ≤ q → (fun q : Nat => s.heap.size ≤ q) q := fun _ h => h
  have hbA : ¬ (fun q : Nat => s.heap.size ≤ q) b := Nat.not_le.mpr hbl
  obtain ⟨own, P, M, V, S, T, cel, ct, cf, co, ca, wd, num, cur, du, wi, dm, hI, hal, hT, hnp, hV⟩ := hti
  refine lv_iload hx hb dL_law_396 (lv_at hl 13 rfl) ?_
  refine lv_iconst (v := 4) hx hb dL_law_398 (by decide) ?_
  refine lv_ishr hx hb dL_law_399 ?_
  refine re_i (y := nI (X / 2 ^ 4)) (pk_shrN hX31 _ 4 (by decide +kernel)) ?_
  refine lv_ldc (v := 60001) hx hb hown (hts0 _ cw_55) dL_law_400 ?_
  refine re_i (y := nI 60001) (show (60001 : Int32) = nI 60001 from rfl) ?_
  refine vp_callSi (va_Run.run (va_runS (As := [.int (nI (X / 2 ^ 4)), .int (nI 60001)]) (rest := []) ⟨hx, hb, hml, hown, hts⟩ (metL_at l (X / 2 ^ 4) 60001 (by omega) (by decide) (by decide)) (va_cwS 2 hts gL_law_L_at rfl rfl rfl (by decide +kernel) ⟨Nat.le_of_ble_eq_true rfl, Nat.le_of_ble_eq_true rfl⟩) ⟨pc0_b, pc0_u⟩ rfl rfl hl.1 rfl (lv_room (Nat.le_of_ble_eq_true rfl)) dL_law_402 ⟨by show cells + 0 ≤ 600130; omega, by show slots + 0 ≤ 7301080; omega⟩)) (fun r h => ?_)
  obtain ⟨k402, hk402, rfl⟩ := h
  refine lv_sipush (v := 30000) hx hb dL_law_405 (by decide) ?_
  refine lv_isub hx hb dL_law_408 ?_
  obtain ⟨F, eF⟩ : ∃ z : Int32, z = nI k402 - 30000 := ⟨_, rfl⟩
  refine re_i (y := F) (eF.symm) ?_
  have hF : F.toInt = (k402 : Int) - 30000 := by rw [eF]; exact i_sub (nI_toInt (by omega)) (show (30000 : Int32).toInt = 30000 by decide) (by omega) (by omega)
  refine lv_istore (lv' := [(16, .int F), (0, .ref b), (1, .ref (ad 0)), (2, .ref (ad 12)), (3, .ref (ad 13)), (4, .ref (ad 14)), (5, .ref (ad 15)), (6, .ref (ad 16)), (7, .int (nI np)), (8, .int (nI n)), (9, .long al), (12, .int ind), (13, .int cr), (14, .int (nI tu)), (11, .int (nI X)), (15, .int y15)]) hx hb dL_law_409 hl (by decide) rfl (fun ls hl => ?_)
  refine lv_aload_n hx hb dL_law_411 rfl (lv_at hl 2 rfl) ?_
  refine lv_iconst (v := 0) hx hb dL_law_412 (by decide) ?_
  refine lv_iconst (v := 0) hx hb dL_law_413 (by decide) ?_
  refine va_calli (va_runV (As := [.int (0 : Int32), .int (0 : Int32)]) (rest := []) ⟨hx, hb, hml, hown, hts⟩ (op_ofRing hnt G tys htI htO hI) (cwV 2 hts gL_law_X7_ofRing rfl rfl rfl (by decide +kernel) ⟨Nat.le_of_ble_eq_true rfl, Nat.le_of_ble_eq_true rfl⟩) ⟨pcX_b, va_recv hK hP (ci := 7) (q0 := 0) rfl hI.1.1, pcX_u hP hK hD hS hA hE⟩ rfl rfl hl.1 rfl (lv_room (Nat.le_of_ble_eq_true rfl)) dL_law_414 ⟨by show cells + 2 ≤ 600130; omega, by show slots + 12 ≤ 7301080; omega⟩) hS (fun q _ h => h) (fun q h => h) (fun r u t H locs ht hvm hq hB hsz hk1 hS => ?_)
  rw [ht] at hB
  obtain ⟨hP, hD⟩ := hB
  refine re_i (y := num) (hq) ?_
  refine lv_istore (lv' := [(17, .int num), (16, .int F), (0, .ref b), (1, .ref (ad 0)), (2, .ref (ad 12)), (3, .ref (ad 13)), (4, .ref (ad 14)), (5, .ref (ad 15)), (6, .ref (ad 16)), (7, .int (nI np)), (8, .int (nI n)), (9, .long al), (12, .int ind), (13, .int cr), (14, .int (nI tu)), (11, .int (nI X)), (15, .int y15)]) hx hb dL_law_417 hl (by decide) rfl (fun ls hl => ?_)
  refine lv_aload_n hx hb dL_law_419 rfl (lv_at hl 3 rfl) ?_
  refine lv_iconst (v := 0) hx hb dL_law_420 (by decide) ?_
  refine lv_iload hx hb dL_law_421 (lv_at hl 1 rfl) ?_
  refine va_calli (va_runV (As := [.int (0 : Int32), .int F]) (rest := []) ⟨hx, hb, hml, hown, hts⟩ (op_flux hnt G tys htI htO hI F (by omega) (by omega)) (cwV 2 hts gL_law_X7_flux rfl rfl rfl (by decide +kernel) ⟨Nat.le_of_ble_eq_true rfl, Nat.le_of_ble_eq_true rfl⟩) ⟨pcX_b, va_recv hK hP (ci := 7) (q0 := 0) rfl hI.1.1, pcX_u hP hK hD hS hA hE⟩ rfl rfl hl.1 rfl (lv_room (Nat.le_of_ble_eq_true rfl)) dL_law_423 ⟨by show cells + 2 + 2 ≤ 600130; omega, by show slots + 12 + 12 ≤ 7301080; omega⟩) hS (fun q _ h => h) (fun q h => h) (fun r2 w t H locs ht hvm hq hB hsz hk1 hS => ?_)
  rw [ht] at hB
  obtain ⟨hP, hD⟩ := hB
  obtain ⟨own2, num2, hI, hi0, er, hstop⟩ := hq
  refine lv_istore (lv' := [(18, .int r2), (17, .int num), (16, .int F), (0, .ref b), (1, .ref (ad 0)), (2, .ref (ad 12)), (3, .ref (ad 13)), (4, .ref (ad 14)), (5, .ref (ad 15)), (6, .ref (ad 16)), (7, .int (nI np)), (8, .int (nI n)), (9, .long al), (12, .int ind), (13, .int cr), (14, .int (nI tu)), (11, .int (nI X)), (15, .int y15)]) hx hb dL_law_426 hl (by decide) rfl (fun ls hl => ?_)
  have esum : num + r2 = num2 := by rw [er, Int32.add_comm, Int32.sub_add_cancel]
  refine lv_aload_n hx hb dL_law_428 rfl (lv_at hl 4 rfl) ?_
  refine lv_iconst (v := 0) hx hb dL_law_429 (by decide) ?_
  refine lv_iconst (v := 0) hx hb dL_law_430 (by decide) ?_
  refine va_calli (va_runV (As := [.int (0 : Int32), .int (0 : Int32)]) (rest := []) ⟨hx, hb, hml, hown, hts⟩ (op_ofRing hnt G tys htI htO hI) (cwV 2 hts gL_law_X7_ofRing rfl rfl rfl (by decide +kernel) ⟨Nat.le_of_ble_eq_true rfl, Nat.le_of_ble_eq_true rfl⟩) ⟨pcX_b, va_recv hK hP (ci := 7) (q0 := 0) rfl hI.1.1, pcX_u hP hK hD hS hA hE⟩ rfl rfl hl.1 rfl (lv_room (Nat.le_of_ble_eq_true rfl)) dL_law_431 ⟨by show cells + 2 + 2 + 2 ≤ 600130; omega, by show slots + 12 + 12 + 12 ≤ 7301080; omega⟩) hS (fun q _ h => h) (fun q h => h) (fun r u t H locs ht hvm hq hB hsz hk1 hS => ?_)
  rw [ht] at hB
  obtain ⟨hP, hD⟩ := hB
  refine re_i (y := num2) (hq) ?_
  refine lv_iload hx hb dL_law_434 (lv_at hl 1 rfl) ?_
  refine lv_iload hx hb dL_law_436 (lv_at hl 0 rfl) ?_
  refine lv_iadd hx hb dL_law_438 ?_
  refine re_i (y := num2) (esum) ?_
  refine lv_icmp_eq (tgt := 444) hx hb dL_law_439 (by decide) (fun c439 => ?_) (fun c439 => absurd (rfl) c439)
  refine lv_sipush (v := 1000) hx hb dL_law_444 (by decide) ?_
  refine lv_iload hx hb dL_law_447 (lv_at hl 1 rfl) ?_
  refine lv_iload hx hb dL_law_449 (lv_at hl 0 rfl) ?_
  refine lv_iadd hx hb dL_law_451 ?_
  refine re_i (y := num2) (esum) ?_
  refine lv_imul hx hb dL_law_452 ?_
  refine lv_iload hx hb dL_law_453 (lv_at hl 2 rfl) ?_
  refine lv_isub hx hb dL_law_455 ?_
  refine lv_iload hx hb dL_law_456 (lv_at hl 13 rfl) ?_
  refine lv_idiv hx hb dL_law_458 hi0 ?_
  obtain ⟨now, eN⟩ : ∃ z : Int32, z = (1000 * num2 - F) / ind := ⟨_, rfl⟩
  refine re_i eN.symm ?_
  have hslip := slip_no hi0 hstop
  rw [← eN] at hslip
  refine lv_istore (lv' := [(19, .int now), (18, .int r2), (17, .int num), (16, .int F), (0, .ref b), (1, .ref (ad 0)), (2, .ref (ad 12)), (3, .ref (ad 13)), (4, .ref (ad 14)), (5, .ref (ad 15)), (6, .ref (ad 16)), (7, .int (nI np)), (8, .int (nI n)), (9, .long al), (12, .int ind), (13, .int cr), (14, .int (nI tu)), (11, .int (nI X)), (15, .int y15)]) hx hb dL_law_459 hl (by decide) rfl (fun ls hl => ?_)
  refine lv_sipush (v := 1000) hx hb dL_law_461 (by decide) ?_
  refine lv_iload hx hb dL_law_464 (lv_at hl 2 rfl) ?_
  refine lv_iload hx hb dL_law_466 (lv_at hl 1 rfl) ?_
  refine lv_iadd hx hb dL_law_468 ?_
  refine re_i (y := num2) (esum) ?_
  refine lv_iload hx hb dL_law_469 (lv_at hl 0 rfl) ?_
  refine lv_if_le (tgt := 478) hx hb dL_law_471 (by decide) (fun c471 => ?_) (fun c471 => ?_)
  · refine lv_iconst (v := 1) hx hb dL_law_478 (by decide) ?_
    refine lv_iadd hx hb dL_law_479 ?_
    refine lv_imul hx hb dL_law_480 ?_
    refine lv_iload hx hb dL_law_481 (lv_at hl 3 rfl) ?_
    refine lv_isub hx hb dL_law_483 ?_
    refine lv_iload hx hb dL_law_484 (lv_at hl 14 rfl) ?_
    refine lv_idiv hx hb dL_law_486 hi0 ?_
    obtain ⟨less, eL⟩ : ∃ z : Int32, z = (1000 * (num2 + 1) - F) / ind := ⟨_, rfl⟩
    refine re_i eL.symm ?_
    have hsl := hslip.1 c471
    rw [← eL] at hsl
    refine lv_istore (lv' := [(20, .int less), (19, .int now), (18, .int r2), (17, .int num), (16, .int F), (0, .ref b), (1, .ref (ad 0)), (2, .ref (ad 12)), (3, .ref (ad 13)), (4, .ref (ad 14)), (5, .ref (ad 15)), (6, .ref (ad 16)), (7, .int (nI np)), (8, .int (nI n)), (9, .long al), (12, .int ind), (13, .int cr), (14, .int (nI tu)), (11, .int (nI X)), (15, .int y15)]) hx hb dL_law_487 hl (by decide) rfl (fun ls hl => ?_)
    refine lv_iload hx hb dL_law_489 (lv_at hl 1 rfl) ?_
    refine lv_if_ge (tgt := 499) hx hb dL_law_491 (by decide) (fun cn => ?_) (fun cn => ?_)
    · refine lv_iload hx hb dL_law_499 (lv_at hl 0 rfl) ?_
      refine lv_if_ge (tgt := 509) hx hb dL_law_501 (by decide) (fun cl => ?_) (fun cl => ?_)
      · rw [jabs_pos cn, jabs_pos cl] at hsl
        refine lv_iload hx hb dL_law_509 (lv_at hl 1 rfl) ?_
        refine lv_iload hx hb dL_law_511 (lv_at hl 16 rfl) ?_
        refine lv_icmp_le (tgt := 525) hx hb dL_law_513 (by decide) (fun cm => ?_) (fun cm => ?_)
        · refine lv_goto (tgt := 661) hx hb dL_law_525 (by decide) ?_
          refine W.widen (k := cells + 60) (n := slots + 1200) (by omega) (by omega) ?_
          exact kk n np al _ _ _ _ ⟨_, _, _, _, _, _, _, _, _, _, _, _, _, _, _, _, _, hI, hal, hT, hnp, hV⟩ hP hD hS (lv_sub hl [5, 6, 7, 8, 9, 10, 11, 12, 13, 14, 15, 16, 17] rfl)
        · refine lv_iload hx hb dL_law_516 (lv_at hl 0 rfl) ?_
          refine lv_iload hx hb dL_law_518 (lv_at hl 1 rfl) ?_
          refine lv_icmp_ge (tgt := 525) hx hb dL_law_520 (by decide) (fun c520 => ?_) (fun c520 => absurd (Int32.not_lt.mp (hsl.resolve_left cm)) c520)
          refine lv_goto (tgt := 661) hx hb dL_law_525 (by decide) ?_
          refine W.widen (k := cells + 60) (n := slots + 1200) (by omega) (by omega) ?_
          exact kk n np al _ _ _ _ ⟨_, _, _, _, _, _, _, _, _, _, _, _, _, _, _, _, _, hI, hal, hT, hnp, hV⟩ hP hD hS (lv_sub hl [5, 6, 7, 8, 9, 10, 11, 12, 13, 14, 15, 16, 17] rfl)
      · refine lv_iload hx hb dL_law_504 (lv_at hl 0 rfl) ?_
        refine lv_ineg hx hb dL_law_506 ?_
        refine lv_istore (lv' := [(20, .int (-less)), (19, .int now), (18, .int r2), (17, .int num), (16, .int F), (0, .ref b), (1, .ref (ad 0)), (2, .ref (ad 12)), (3, .ref (ad 13)), (4, .ref (ad 14)), (5, .ref (ad 15)), (6, .ref (ad 16)), (7, .int (nI np)), (8, .int (nI n)), (9, .long al), (12, .int ind), (13, .int cr), (14, .int (nI tu)), (11, .int (nI X)), (15, .int y15)]) hx hb dL_law_507 hl (by decide) rfl (fun ls hl => ?_)
        rw [jabs_pos cn, jabs_neg cl] at hsl
        refine lv_iload hx hb dL_law_509 (lv_at hl 1 rfl) ?_
        refine lv_iload hx hb dL_law_511 (lv_at hl 16 rfl) ?_
        refine lv_icmp_le (tgt := 525) hx hb dL_law_513 (by decide) (fun cm => ?_) (fun cm => ?_)
        · refine lv_goto (tgt := 661) hx hb dL_law_525 (by decide) ?_
          refine W.widen (k := cells + 60) (n := slots + 1200) (by omega) (by omega) ?_
          exact kk n np al _ _ _ _ ⟨_, _, _, _, _, _, _, _, _, _, _, _, _, _, _, _, _, hI, hal, hT, hnp, hV⟩ hP hD hS (lv_sub hl [5, 6, 7, 8, 9, 10, 11, 12, 13, 14, 15, 16, 17] rfl)
        · refine lv_iload hx hb dL_law_516 (lv_at hl 0 rfl) ?_
          refine lv_iload hx hb dL_law_518 (lv_at hl 1 rfl) ?_
          refine lv_icmp_ge (tgt := 525) hx hb dL_law_520 (by decide) (fun c520 => ?_) (fun c520 => absurd (Int32.not_lt.mp (hsl.resolve_left cm)) c520)
          refine lv_goto (tgt := 661) hx hb dL_law_525 (by decide) ?_
          refine W.widen (k := cells + 60) (n := slots + 1200) (by omega) (by omega) ?_
          exact kk n np al _ _ _ _ ⟨_, _, _, _, _, _, _, _, _, _, _, _, _, _, _, _, _, hI, hal, hT, hnp, hV⟩ hP hD hS (lv_sub hl [5, 6, 7, 8, 9, 10, 11, 12, 13, 14, 15, 16, 17] rfl)
    · refine lv_iload hx hb dL_law_494 (lv_at hl 1 rfl) ?_
      refine lv_ineg hx hb dL_law_496 ?_
      refine lv_istore (lv' := [(19, .int (-now)), (20, .int less), (18, .int r2), (17, .int num), (16, .int F), (0, .ref b), (1, .ref (ad 0)), (2, .ref (ad 12)), (3, .ref (ad 13)), (4, .ref (ad 14)), (5, .ref (ad 15)), (6, .ref (ad 16)), (7, .int (nI np)), (8, .int (nI n)), (9, .long al), (12, .int ind), (13, .int cr), (14, .int (nI tu)), (11, .int (nI X)), (15, .int y15)]) hx hb dL_law_497 hl (by decide) rfl (fun ls hl => ?_)
      refine lv_iload hx hb dL_law_499 (lv_at hl 1 rfl) ?_
      refine lv_if_ge (tgt := 509) hx hb dL_law_501 (by decide) (fun cl => ?_) (fun cl => ?_)
      · rw [jabs_neg cn, jabs_pos cl] at hsl
        refine lv_iload hx hb dL_law_509 (lv_at hl 0 rfl) ?_
        refine lv_iload hx hb dL_law_511 (lv_at hl 16 rfl) ?_
        refine lv_icmp_le (tgt := 525) hx hb dL_law_513 (by decide) (fun cm => ?_) (fun cm => ?_)
        · refine lv_goto (tgt := 661) hx hb dL_law_525 (by decide) ?_
          refine W.widen (k := cells + 60) (n := slots + 1200) (by omega) (by omega) ?_
          exact kk n np al _ _ _ _ ⟨_, _, _, _, _, _, _, _, _, _, _, _, _, _, _, _, _, hI, hal, hT, hnp, hV⟩ hP hD hS (lv_sub hl [5, 6, 7, 8, 9, 10, 11, 12, 13, 14, 15, 16, 17] rfl)
        · refine lv_iload hx hb dL_law_516 (lv_at hl 1 rfl) ?_
          refine lv_iload hx hb dL_law_518 (lv_at hl 0 rfl) ?_
          refine lv_icmp_ge (tgt := 525) hx hb dL_law_520 (by decide) (fun c520 => ?_) (fun c520 => absurd (Int32.not_lt.mp (hsl.resolve_left cm)) c520)
          refine lv_goto (tgt := 661) hx hb dL_law_525 (by decide) ?_
          refine W.widen (k := cells + 60) (n := slots + 1200) (by omega) (by omega) ?_
          exact kk n np al _ _ _ _ ⟨_, _, _, _, _, _, _, _, _, _, _, _, _, _, _, _, _, hI, hal, hT, hnp, hV⟩ hP hD hS (lv_sub hl [5, 6, 7, 8, 9, 10, 11, 12, 13, 14, 15, 16, 17] rfl)
      · refine lv_iload hx hb dL_law_504 (lv_at hl 1 rfl) ?_
        refine lv_ineg hx hb dL_law_506 ?_
        refine lv_istore (lv' := [(20, .int (-less)), (19, .int (-now)), (18, .int r2), (17, .int num), (16, .int F), (0, .ref b), (1, .ref (ad 0)), (2, .ref (ad 12)), (3, .ref (ad 13)), (4, .ref (ad 14)), (5, .ref (ad 15)), (6, .ref (ad 16)), (7, .int (nI np)), (8, .int (nI n)), (9, .long al), (12, .int ind), (13, .int cr), (14, .int (nI tu)), (11, .int (nI X)), (15, .int y15)]) hx hb dL_law_507 hl (by decide) rfl (fun ls hl => ?_)
        rw [jabs_neg cn, jabs_neg cl] at hsl
        refine lv_iload hx hb dL_law_509 (lv_at hl 1 rfl) ?_
        refine lv_iload hx hb dL_law_511 (lv_at hl 16 rfl) ?_
        refine lv_icmp_le (tgt := 525) hx hb dL_law_513 (by decide) (fun cm => ?_) (fun cm => ?_)
        · refine lv_goto (tgt := 661) hx hb dL_law_525 (by decide) ?_
          refine W.widen (k := cells + 60) (n := slots + 1200) (by omega) (by omega) ?_
          exact kk n np al _ _ _ _ ⟨_, _, _, _, _, _, _, _, _, _, _, _, _, _, _, _, _, hI, hal, hT, hnp, hV⟩ hP hD hS (lv_sub hl [5, 6, 7, 8, 9, 10, 11, 12, 13, 14, 15, 16, 17] rfl)
        · refine lv_iload hx hb dL_law_516 (lv_at hl 0 rfl) ?_
          refine lv_iload hx hb dL_law_518 (lv_at hl 1 rfl) ?_
          refine lv_icmp_ge (tgt := 525) hx hb dL_law_520 (by decide) (fun c520 => ?_) (fun c520 => absurd (Int32.not_lt.mp (hsl.resolve_left cm)) c520)
          refine lv_goto (tgt := 661) hx hb dL_law_525 (by decide) ?_
          refine W.widen (k := cells + 60) (n := slots + 1200) (by omega) (by omega) ?_
          exact kk n np al _ _ _ _ ⟨_, _, _, _, _, _, _, _, _, _, _, _, _, _, _, _, _, hI, hal, hT, hnp, hV⟩ hP hD hS (lv_sub hl [5, 6, 7, 8, 9, 10, 11, 12, 13, 14, 15, 16, 17] rfl)
  · refine lv_iconst (v := -1) hx hb dL_law_474 (by decide) ?_
    refine lv_goto (tgt := 479) hx hb dL_law_475 (by decide) ?_
    refine lv_iadd hx hb dL_law_479 ?_
    refine lv_imul hx hb dL_law_480 ?_
    refine lv_iload hx hb dL_law_481 (lv_at hl 3 rfl) ?_
    refine lv_isub hx hb dL_law_483 ?_
    refine lv_iload hx hb dL_law_484 (lv_at hl 14 rfl) ?_
    refine lv_idiv hx hb dL_law_486 hi0 ?_
    obtain ⟨less, eL⟩ : ∃ z : Int32, z = (1000 * (num2 + -1) - F) / ind := ⟨_, rfl⟩
    refine re_i eL.symm ?_
    have hsl := hslip.2 c471
    rw [← eL] at hsl
    refine lv_istore (lv' := [(20, .int less), (19, .int now), (18, .int r2), (17, .int num), (16, .int F), (0, .ref b), (1, .ref (ad 0)), (2, .ref (ad 12)), (3, .ref (ad 13)), (4, .ref (ad 14)), (5, .ref (ad 15)), (6, .ref (ad 16)), (7, .int (nI np)), (8, .int (nI n)), (9, .long al), (12, .int ind), (13, .int cr), (14, .int (nI tu)), (11, .int (nI X)), (15, .int y15)]) hx hb dL_law_487 hl (by decide) rfl (fun ls hl => ?_)
    refine lv_iload hx hb dL_law_489 (lv_at hl 1 rfl) ?_
    refine lv_if_ge (tgt := 499) hx hb dL_law_491 (by decide) (fun cn => ?_) (fun cn => ?_)
    · refine lv_iload hx hb dL_law_499 (lv_at hl 0 rfl) ?_
      refine lv_if_ge (tgt := 509) hx hb dL_law_501 (by decide) (fun cl => ?_) (fun cl => ?_)
      · rw [jabs_pos cn, jabs_pos cl] at hsl
        refine lv_iload hx hb dL_law_509 (lv_at hl 1 rfl) ?_
        refine lv_iload hx hb dL_law_511 (lv_at hl 16 rfl) ?_
        refine lv_icmp_le (tgt := 525) hx hb dL_law_513 (by decide) (fun cm => ?_) (fun cm => ?_)
        · refine lv_goto (tgt := 661) hx hb dL_law_525 (by decide) ?_
          refine W.widen (k := cells + 60) (n := slots + 1200) (by omega) (by omega) ?_
          exact kk n np al _ _ _ _ ⟨_, _, _, _, _, _, _, _, _, _, _, _, _, _, _, _, _, hI, hal, hT, hnp, hV⟩ hP hD hS (lv_sub hl [5, 6, 7, 8, 9, 10, 11, 12, 13, 14, 15, 16, 17] rfl)
        · refine lv_iload hx hb dL_law_516 (lv_at hl 0 rfl) ?_
          refine lv_iload hx hb dL_law_518 (lv_at hl 1 rfl) ?_
          refine lv_icmp_ge (tgt := 525) hx hb dL_law_520 (by decide) (fun c520 => ?_) (fun c520 => absurd (Int32.not_lt.mp (hsl.resolve_left cm)) c520)
          refine lv_goto (tgt := 661) hx hb dL_law_525 (by decide) ?_
          refine W.widen (k := cells + 60) (n := slots + 1200) (by omega) (by omega) ?_
          exact kk n np al _ _ _ _ ⟨_, _, _, _, _, _, _, _, _, _, _, _, _, _, _, _, _, hI, hal, hT, hnp, hV⟩ hP hD hS (lv_sub hl [5, 6, 7, 8, 9, 10, 11, 12, 13, 14, 15, 16, 17] rfl)
      · refine lv_iload hx hb dL_law_504 (lv_at hl 0 rfl) ?_
        refine lv_ineg hx hb dL_law_506 ?_
        refine lv_istore (lv' := [(20, .int (-less)), (19, .int now), (18, .int r2), (17, .int num), (16, .int F), (0, .ref b), (1, .ref (ad 0)), (2, .ref (ad 12)), (3, .ref (ad 13)), (4, .ref (ad 14)), (5, .ref (ad 15)), (6, .ref (ad 16)), (7, .int (nI np)), (8, .int (nI n)), (9, .long al), (12, .int ind), (13, .int cr), (14, .int (nI tu)), (11, .int (nI X)), (15, .int y15)]) hx hb dL_law_507 hl (by decide) rfl (fun ls hl => ?_)
        rw [jabs_pos cn, jabs_neg cl] at hsl
        refine lv_iload hx hb dL_law_509 (lv_at hl 1 rfl) ?_
        refine lv_iload hx hb dL_law_511 (lv_at hl 16 rfl) ?_
        refine lv_icmp_le (tgt := 525) hx hb dL_law_513 (by decide) (fun cm => ?_) (fun cm => ?_)
        · refine lv_goto (tgt := 661) hx hb dL_law_525 (by decide) ?_
          refine W.widen (k := cells + 60) (n := slots + 1200) (by omega) (by omega) ?_
          exact kk n np al _ _ _ _ ⟨_, _, _, _, _, _, _, _, _, _, _, _, _, _, _, _, _, hI, hal, hT, hnp, hV⟩ hP hD hS (lv_sub hl [5, 6, 7, 8, 9, 10, 11, 12, 13, 14, 15, 16, 17] rfl)
        · refine lv_iload hx hb dL_law_516 (lv_at hl 0 rfl) ?_
          refine lv_iload hx hb dL_law_518 (lv_at hl 1 rfl) ?_
          refine lv_icmp_ge (tgt := 525) hx hb dL_law_520 (by decide) (fun c520 => ?_) (fun c520 => absurd (Int32.not_lt.mp (hsl.resolve_left cm)) c520)
          refine lv_goto (tgt := 661) hx hb dL_law_525 (by decide) ?_
          refine W.widen (k := cells + 60) (n := slots + 1200) (by omega) (by omega) ?_
          exact kk n np al _ _ _ _ ⟨_, _, _, _, _, _, _, _, _, _, _, _, _, _, _, _, _, hI, hal, hT, hnp, hV⟩ hP hD hS (lv_sub hl [5, 6, 7, 8, 9, 10, 11, 12, 13, 14, 15, 16, 17] rfl)
    · refine lv_iload hx hb dL_law_494 (lv_at hl 1 rfl) ?_
      refine lv_ineg hx hb dL_law_496 ?_
      refine lv_istore (lv' := [(19, .int (-now)), (20, .int less), (18, .int r2), (17, .int num), (16, .int F), (0, .ref b), (1, .ref (ad 0)), (2, .ref (ad 12)), (3, .ref (ad 13)), (4, .ref (ad 14)), (5, .ref (ad 15)), (6, .ref (ad 16)), (7, .int (nI np)), (8, .int (nI n)), (9, .long al), (12, .int ind), (13, .int cr), (14, .int (nI tu)), (11, .int (nI X)), (15, .int y15)]) hx hb dL_law_497 hl (by decide) rfl (fun ls hl => ?_)
      refine lv_iload hx hb dL_law_499 (lv_at hl 1 rfl) ?_
      refine lv_if_ge (tgt := 509) hx hb dL_law_501 (by decide) (fun cl => ?_) (fun cl => ?_)
      · rw [jabs_neg cn, jabs_pos cl] at hsl
        refine lv_iload hx hb dL_law_509 (lv_at hl 0 rfl) ?_
        refine lv_iload hx hb dL_law_511 (lv_at hl 16 rfl) ?_
        refine lv_icmp_le (tgt := 525) hx hb dL_law_513 (by decide) (fun cm => ?_) (fun cm => ?_)
        · refine lv_goto (tgt := 661) hx hb dL_law_525 (by decide) ?_
          refine W.widen (k := cells + 60) (n := slots + 1200) (by omega) (by omega) ?_
          exact kk n np al _ _ _ _ ⟨_, _, _, _, _, _, _, _, _, _, _, _, _, _, _, _, _, hI, hal, hT, hnp, hV⟩ hP hD hS (lv_sub hl [5, 6, 7, 8, 9, 10, 11, 12, 13, 14, 15, 16, 17] rfl)
        · refine lv_iload hx hb dL_law_516 (lv_at hl 1 rfl) ?_
          refine lv_iload hx hb dL_law_518 (lv_at hl 0 rfl) ?_
          refine lv_icmp_ge (tgt := 525) hx hb dL_law_520 (by decide) (fun c520 => ?_) (fun c520 => absurd (Int32.not_lt.mp (hsl.resolve_left cm)) c520)
          refine lv_goto (tgt := 661) hx hb dL_law_525 (by decide) ?_
          refine W.widen (k := cells + 60) (n := slots + 1200) (by omega) (by omega) ?_
          exact kk n np al _ _ _ _ ⟨_, _, _, _, _, _, _, _, _, _, _, _, _, _, _, _, _, hI, hal, hT, hnp, hV⟩ hP hD hS (lv_sub hl [5, 6, 7, 8, 9, 10, 11, 12, 13, 14, 15, 16, 17] rfl)
      · refine lv_iload hx hb dL_law_504 (lv_at hl 1 rfl) ?_
        refine lv_ineg hx hb dL_law_506 ?_
        refine lv_istore (lv' := [(20, .int (-less)), (19, .int (-now)), (18, .int r2), (17, .int num), (16, .int F), (0, .ref b), (1, .ref (ad 0)), (2, .ref (ad 12)), (3, .ref (ad 13)), (4, .ref (ad 14)), (5, .ref (ad 15)), (6, .ref (ad 16)), (7, .int (nI np)), (8, .int (nI n)), (9, .long al), (12, .int ind), (13, .int cr), (14, .int (nI tu)), (11, .int (nI X)), (15, .int y15)]) hx hb dL_law_507 hl (by decide) rfl (fun ls hl => ?_)
        rw [jabs_neg cn, jabs_neg cl] at hsl
        refine lv_iload hx hb dL_law_509 (lv_at hl 1 rfl) ?_
        refine lv_iload hx hb dL_law_511 (lv_at hl 16 rfl) ?_
        refine lv_icmp_le (tgt := 525) hx hb dL_law_513 (by decide) (fun cm => ?_) (fun cm => ?_)
        · refine lv_goto (tgt := 661) hx hb dL_law_525 (by decide) ?_
          refine W.widen (k := cells + 60) (n := slots + 1200) (by omega) (by omega) ?_
          exact kk n np al _ _ _ _ ⟨_, _, _, _, _, _, _, _, _, _, _, _, _, _, _, _, _, hI, hal, hT, hnp, hV⟩ hP hD hS (lv_sub hl [5, 6, 7, 8, 9, 10, 11, 12, 13, 14, 15, 16, 17] rfl)
        · refine lv_iload hx hb dL_law_516 (lv_at hl 0 rfl) ?_
          refine lv_iload hx hb dL_law_518 (lv_at hl 1 rfl) ?_
          refine lv_icmp_ge (tgt := 525) hx hb dL_law_520 (by decide) (fun c520 => ?_) (fun c520 => absurd (Int32.not_lt.mp (hsl.resolve_left cm)) c520)
          refine lv_goto (tgt := 661) hx hb dL_law_525 (by decide) ?_
          refine W.widen (k := cells + 60) (n := slots + 1200) (by omega) (by omega) ?_
          exact kk n np al _ _ _ _ ⟨_, _, _, _, _, _, _, _, _, _, _, _, _, _, _, _, _, hI, hal, hT, hnp, hV⟩ hP hD hS (lv_sub hl [5, 6, 7, 8, 9, 10, 11, 12, 13, 14, 15, 16, 17] rfl)
