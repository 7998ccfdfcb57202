set_option maxHeartbeats 4000000 in
set_option maxRecDepth 100000 in
theorem act_6 {p : Program} {l : Launch} {e : Env} {s : State} {m : MethodId} {below : List Frame} {meth : Method} {c : Code} (hnt : l.stackTraces = false) {G : va_G} {tys : List (ClassId × FieldType)} {tE mi : Nat} {cI cO : ClassId} (htI : tI tys cI) (htO : tO tys cO) {b L : Nat} {xs : Nat → Int32} (hL : L ≤ 260) (C0 : lw_At p s m meth c b L xs) {ad : Nat → Nat} (hK : va_K G vwCl tys s) (hE : env (fun q : Nat => s.heap.size ≤ q) tE mi s s.heap) {ind cr : Int32} {n np tu X : Nat} {al : Int64} {y15 : Int32} {ws : va_W} {H : Heap} {locs : List Loc} {cells slots : Nat} {Q : State → Prop} {ls : Array Slot} (hX31 : X < 2 ^ 31) (hti : ti cI cO tE ad ind cr n np al ws) (hP : va_P G vwCl ws H) (hD : va_D (fun q : Nat => s.heap.size ≤ q) ws) (hS : va_S (fun q : Nat => s.heap.size ≤ q) s.heap H locs) (hl : lv_has ls 26 [(0, .ref b), (1, .ref (ad 0)), (2, .ref (ad 12)), (3, .ref (ad 13)), (4, .ref (ad 14)), (5, .ref (ad 15)), (6, .ref (ad 16)), (7, .int (nI np)), (8, .int (nI n)), (9, .long al), (12, .int ind), (13, .int cr), (14, .int (nI tu)), (11, .int (nI X)), (15, .int y15)]) (hc : cells + 60 ≤ 600130) (hs : slots + 1200 ≤ 7301080) (kk : ∀ (n2 np2 : Nat) (al2 : Int64) (w : va_W) (H1 : Heap) (locs1 : List Loc) (ls1 : Array Slot), ti cI cO tE ad ind cr n2 np2 al2 w → va_P G vwCl w H1 → va_D (fun q : Nat => s.heap.size ≤ q) w → va_S (fun q : Nat => s.heap.size ≤ q) s.heap H1 locs1 → lv_has ls1 26 [(0, .ref b), (1, .ref (ad 0)), (2, .ref (ad 12)), (3, .ref (ad 13)), (4, .ref (ad 14)), (5, .ref (ad 15)), (6, .ref (ad 16)), (7, .int (nI np2)), (8, .int (nI n2)), (9, .long al2), (12, .int ind), (13, .int cr), (14, .int (nI tu))] → W p l e room_1 s m #[Value.ref b] below meth c H1 locs1 (cells + 60) (slots + 1200) Q (F0 m 661 ls1 [])) : W p l e room_1 s m #[Value.ref b] below meth c H locs (cells) (slots) Q (F0 m 528 ls []) := by
  obtain ⟨hx, hb, hr, hml, hown, hts0, hX, hbl, hlocks, hgv⟩ := C0
  have hts : ∀ w ∈ wsL_law, w.before #[Value.ref b] s = true := fun w h => hts0 w (wsL_law_in w h)
  have hown : s.vm.findClass RL = some m.cls := hown
  have hA : ∀ q : Nat, s.heap.size ≤ q → (fun q : Nat => s.heap.size ≤ q) q := fun _ h => h
  have hbA : ¬ (fun q : Nat => s.heap.size ≤ q) b := Nat.not_le.mpr hbl
  obtain ⟨own, P, M, V, S, T, cel, ct, cf, co, ca, wd, num, cur, du, wi, dm, hI, hal, hT, hnp, hV⟩ := hti
  refine lv_iload hx hb dL_law_528 (lv_at hl 7 rfl) ?_
  refine lv_bipush (v := 56) hx hb dL_law_530 (by decide) ?_
  refine lv_icmp_ge (tgt := 661) hx hb dL_law_532 (by decide) (fun c532 => ?_) (fun c532 => ?_)
  · refine W.widen (k := cells + 60) (n := slots + 1200) (by omega) (by omega) ?_
    exact kk n np al _ _ _ _ ⟨_, _, _, _, _, _, _, _, _, _, _, _, _, _, _, _, _, hI, hal, hT, hnp, hV⟩ hP hD hS (lv_sub hl [0, 1, 2, 3, 4, 5, 6, 7, 8, 9, 10, 11, 12] rfl)
  · have hnp56 : np < 56 := Nat.lt_of_not_le (fun q => c532 (show nI 56 ≤ nI np from nI_le q (by omega)))
    refine lv_iconst (v := 0) hx hb dL_law_535 (by decide) ?_
    refine lv_istore (lv' := [(16, .int (0 : Int32)), (0, .ref b), (1, .ref (ad 0)), (2, .ref (ad 12)), (3, .ref (ad 13)), (4, .ref (ad 14)), (5, .ref (ad 15)), (6, .ref (ad 16)), (7, .int (nI np)), (8, .int (nI n)), (9, .long al), (12, .int ind), (13, .int cr), (14, .int (nI tu)), (11, .int (nI X)), (15, .int y15)]) hx hb dL_law_536 hl (by decide) rfl (fun ls hl => ?_)
    refine lv_iload hx hb dL_law_538 (lv_at hl 0 rfl) ?_
    refine lv_iconst (v := 2) hx hb dL_law_540 (by decide) ?_
    refine lv_icmp_ge (tgt := 661) hx hb dL_law_541 (by decide) (fun c541 => absurd c541 (by decide)) (fun c541 => ?_)
    refine lv_aload_n hx hb dL_law_544 rfl (lv_at hl 3 rfl) ?_
    refine lv_iload hx hb dL_law_545 (lv_at hl 8 rfl) ?_
    refine lv_iload hx hb dL_law_547 (lv_at hl 14 rfl) ?_
    refine lv_iconst (v := 4) hx hb dL_law_549 (by decide) ?_
    refine lv_ishr hx hb dL_law_550 ?_
    refine re_i (y := nI (X / 2 ^ 4)) (pk_shrN hX31 _ 4 (by decide +kernel)) ?_
    refine lv_iconst (v := 3) hx hb dL_law_551 (by decide) ?_
    refine re_i (y := nI 3) (show (3 : Int32) = nI 3 from rfl) ?_
    refine vp_callSi (va_Run.run (va_runS (As := [.int (nI (X / 2 ^ 4)), .int (nI 3)]) (rest := [.int (nI np), .ref (ad 12)]) ⟨hx, hb, hml, hown, hts⟩ (metL_at l (X / 2 ^ 4) 3 (by omega) (by decide) (by decide)) (va_cwS 2 hts gL_law_L_at rfl rfl rfl (by decide +kernel) ⟨Nat.le_of_ble_eq_true rfl, Nat.le_of_ble_eq_true rfl⟩) ⟨pc0_b, pc0_u⟩ rfl rfl hl.1 rfl (lv_room (Nat.le_of_ble_eq_true rfl)) dL_law_552 ⟨by show cells + 0 ≤ 600130; omega, by show slots + 0 ≤ 7301080; omega⟩)) (fun r h => ?_)
    obtain ⟨k552, hk552, rfl⟩ := h
    refine lv_bipush (v := 40) hx hb dL_law_555 (by decide) ?_
    refine lv_imul hx hb dL_law_557 ?_
    refine va_iast hx hb hK hP hD hS 12 0 hI.2.1.1.1 htI (vp_in_nI (by omega) (by decide)) dL_law_558 (fun H locs hP hD hS => ?_)
    rw [nI_clamp (show np < 2 ^ 31 by omega)] at hP hD
    have hI := hI.w12 np ((nI k552) * (40 : Int32)) (Nat.le_refl _)
    refine lv_aload_n hx hb dL_law_559 rfl (lv_at hl 4 rfl) ?_
    refine lv_iload hx hb dL_law_560 (lv_at hl 8 rfl) ?_
    refine lv_iconst (v := 1) hx hb dL_law_562 (by decide) ?_
    refine lv_iload hx hb dL_law_563 (lv_at hl 14 rfl) ?_
    refine lv_bipush (v := 8) hx hb dL_law_565 (by decide) ?_
    refine lv_ishr hx hb dL_law_567 ?_
    refine re_i (y := nI (X / 2 ^ 8)) (pk_shrN hX31 _ 8 (by decide +kernel)) ?_
    refine lv_iconst (v := 2) hx hb dL_law_568 (by decide) ?_
    refine re_i (y := nI 2) (show (2 : Int32) = nI 2 from rfl) ?_
    refine vp_callSi (va_Run.run (va_runS (As := [.int (nI (X / 2 ^ 8)), .int (nI 2)]) (rest := [.int (1 : Int32), .int (nI np), .ref (ad 13)]) ⟨hx, hb, hml, hown, hts⟩ (metL_at l (X / 2 ^ 8) 2 (by omega) (by decide) (by decide)) (va_cwS 2 hts gL_law_L_at rfl rfl rfl (by decide +kernel) ⟨Nat.le_of_ble_eq_true rfl, Nat.le_of_ble_eq_true rfl⟩) ⟨pc0_b, pc0_u⟩ rfl rfl hl.1 rfl (lv_room (Nat.le_of_ble_eq_true rfl)) dL_law_569 ⟨by show cells + 0 ≤ 600130; omega, by show slots + 0 ≤ 7301080; omega⟩)) (fun r h => ?_)
    obtain ⟨k569, hk569, rfl⟩ := h
    refine lv_iadd hx hb dL_law_572 ?_
    refine lv_iload hx hb dL_law_573 (lv_at hl 0 rfl) ?_
    refine lv_if_ne (tgt := 583) hx hb dL_law_575 (by decide) (fun c575 => absurd (by decide) c575) (fun c575 => ?_)
    refine lv_bipush (v := 100) hx hb dL_law_578 (by decide) ?_
    refine lv_goto (tgt := 585) hx hb dL_law_580 (by decide) ?_
    refine lv_imul hx hb dL_law_585 ?_
    refine va_iast hx hb hK hP hD hS 13 0 hI.2.1.2.1.1 htI (vp_in_nI (by omega) (by decide)) dL_law_586 (fun H locs hP hD hS => ?_)
    rw [nI_clamp (show np < 2 ^ 31 by omega)] at hP hD
    have hI := hI.w13 np (((1 : Int32) + (nI k569)) * (100 : Int32)) (Nat.le_refl _)
    refine lv_aload hx hb dL_law_587 (lv_at hl 5 rfl) ?_
    refine lv_iload hx hb dL_law_589 (lv_at hl 8 rfl) ?_
    refine lv_iload hx hb dL_law_591 (lv_at hl 14 rfl) ?_
    refine lv_bipush (v := 12) hx hb dL_law_593 (by decide) ?_
    refine lv_ishr hx hb dL_law_595 ?_
    refine re_i (y := nI (X / 2 ^ 12)) (pk_shrN hX31 _ 12 (by decide +kernel)) ?_
    refine lv_bipush (v := 50) hx hb dL_law_596 (by decide) ?_
    refine re_i (y := nI 50) (show (50 : Int32) = nI 50 from rfl) ?_
    refine vp_callSi (va_Run.run (va_runS (As := [.int (nI (X / 2 ^ 12)), .int (nI 50)]) (rest := [.int (nI np), .ref (ad 14)]) ⟨hx, hb, hml, hown, hts⟩ (metL_at l (X / 2 ^ 12) 50 (by omega) (by decide) (by decide)) (va_cwS 2 hts gL_law_L_at rfl rfl rfl (by decide +kernel) ⟨Nat.le_of_ble_eq_true rfl, Nat.le_of_ble_eq_true rfl⟩) ⟨pc0_b, pc0_u⟩ rfl rfl hl.1 rfl (lv_room (Nat.le_of_ble_eq_true rfl)) dL_law_598 ⟨by show cells + 0 ≤ 600130; omega, by show slots + 0 ≤ 7301080; omega⟩)) (fun r h => ?_)
    obtain ⟨k598, hk598, rfl⟩ := h
    refine lv_iload hx hb dL_law_601 (lv_at hl 0 rfl) ?_
    refine lv_if_ne (tgt := 610) hx hb dL_law_603 (by decide) (fun c603 => absurd (by decide) c603) (fun c603 => ?_)
    refine lv_iconst (v := 0) hx hb dL_law_606 (by decide) ?_
    refine lv_goto (tgt := 620) hx hb dL_law_607 (by decide) ?_
    refine lv_iadd hx hb dL_law_620 ?_
    refine va_iast hx hb hK hP hD hS 14 0 hI.2.1.2.2.1.1 htI (vp_in_nI (by omega) (by decide)) dL_law_621 (fun H locs hP hD hS => ?_)
    rw [nI_clamp (show np < 2 ^ 31 by omega)] at hP hD
    have hI := hI.w14 np ((nI k598) + (0 : Int32)) (Nat.le_refl _)
    refine lv_iinc (v := nI (np + 1)) (lv' := [(7, .int (nI (np + 1))), (16, .int (0 : Int32)), (0, .ref b), (1, .ref (ad 0)), (2, .ref (ad 12)), (3, .ref (ad 13)), (4, .ref (ad 14)), (5, .ref (ad 15)), (6, .ref (ad 16)), (8, .int (nI n)), (9, .long al), (12, .int ind), (13, .int cr), (14, .int (nI tu)), (11, .int (nI X)), (15, .int y15)]) hx hb dL_law_622 hl (k := 8) rfl (nI_1 np) (by decide) rfl (fun ls hl => ?_)
    refine lv_aload_n hx hb dL_law_625 rfl (lv_at hl 3 rfl) ?_
    refine lv_aload_n hx hb dL_law_626 rfl (lv_at hl 4 rfl) ?_
    refine lv_iload hx hb dL_law_627 (lv_at hl 0 rfl) ?_
    refine lv_iconst (v := 1) hx hb dL_law_629 (by decide) ?_
    refine lv_isub hx hb dL_law_630 ?_
    refine re_i (y := nI np) (nI_m1 np) ?_
    refine va_iald hx hb hK hP 12 0 hI.2.1.1.1 htI (vp_in_nI (by omega) (by decide)) dL_law_631 ?_
    refine rd_i (j := np) (nI_clamp (by omega)) ?_
    refine re_i (y := (nI k552) * (40 : Int32)) (upd_at) ?_
    refine lv_aload_n hx hb dL_law_632 rfl (lv_at hl 5 rfl) ?_
    refine lv_iload hx hb dL_law_633 (lv_at hl 0 rfl) ?_
    refine lv_iconst (v := 1) hx hb dL_law_635 (by decide) ?_
    refine lv_isub hx hb dL_law_636 ?_
    refine re_i (y := nI np) (nI_m1 np) ?_
    refine va_iald hx hb hK hP 13 0 hI.2.1.2.1.1 htI (vp_in_nI (by omega) (by decide)) dL_law_637 ?_
    refine rd_i (j := np) (nI_clamp (by omega)) ?_
    refine re_i (y := ((1 : Int32) + (nI k569)) * (100 : Int32)) (upd_at) ?_
    refine lv_aload hx hb dL_law_638 (lv_at hl 6 rfl) ?_
    refine lv_iload hx hb dL_law_640 (lv_at hl 0 rfl) ?_
    refine lv_iconst (v := 1) hx hb dL_law_642 (by decide) ?_
    refine lv_isub hx hb dL_law_643 ?_
    refine re_i (y := nI np) (nI_m1 np) ?_
    refine va_iald hx hb hK hP 14 0 hI.2.1.2.2.1.1 htI (vp_in_nI (by omega) (by decide)) dL_law_644 ?_
    refine rd_i (j := np) (nI_clamp (by omega)) ?_
    refine re_i (y := (nI k598) + (0 : Int32)) (upd_at) ?_
    have hx0 : ((nI k552) * (40 : Int32)).toInt = (k552 : Int) * 40 := i_mul (nI_toInt (show k552 < 2 ^ 31 by omega)) (show (40 : Int32).toInt = 40 by decide) (by omega) (by omega)
    have hs0 : (1 + nI k569).toInt = 1 + (k569 : Int) := i_add (show (1 : Int32).toInt = 1 by decide) (nI_toInt (show k569 < 2 ^ 31 by omega)) (by omega) (by omega)
    have hy0 : (((1 : Int32) + (nI k569)) * (100 : Int32)).toInt = (1 + (k569 : Int)) * 100 := i_mul hs0 (show (100 : Int32).toInt = 100 by decide) (by omega) (by omega)
    have hz0 : ((nI k598) + (0 : Int32)).toInt = (k598 : Int) + 0 := i_add (nI_toInt (show k598 < 2 ^ 31 by omega)) (show (0 : Int32).toInt = 0 by decide) (by omega) (by omega)
    refine va_calli (va_runV (As := [.int ((nI k552) * (40 : Int32)), .int (((1 : Int32) + (nI k569)) * (100 : Int32)), .int ((nI k598) + (0 : Int32))]) (rest := []) ⟨hx, hb, hml, hown, hts⟩ (op_point hnt G tys htI htO hI ((nI k552) * (40 : Int32)) (((1 : Int32) + (nI k569)) * (100 : Int32)) ((nI k598) + (0 : Int32)) (cd_if (oR_of (a := 0) (b := 300) (by decide) (by decide) hx0 (by omega) (by omega)) (cd_if (oR_of (a := -1000) (b := 1000) (by decide) (by decide) hy0 (by omega) (by omega)) (cd_if (oR_of (a := -1000000) (b := 1000000) (by decide) (by decide) hz0 (by omega) (by omega)) (cd_if (show ¬ nI 60 ≤ nI np from nI_ge (by omega) (by decide)) rfl)))) (by omega) upd_at upd_at upd_at) (cwV 3 hts gL_law_X7_point rfl rfl rfl (by decide +kernel) ⟨Nat.le_of_ble_eq_true rfl, Nat.le_of_ble_eq_true rfl⟩) ⟨pcX_b, va_recv hK hP (ci := 7) (q0 := 0) rfl hI.1.1, pcX_u hP hK hD hS hA hE⟩ rfl rfl hl.1 rfl (lv_room (Nat.le_of_ble_eq_true rfl)) dL_law_645 ⟨by show cells + 6 ≤ 600130; omega, by show slots + 227 ≤ 7301080; omega⟩) hS (fun q _ h => h) (fun q h => h) (fun rp w t H locs ht hvm hq hB hsz hk1 hS => ?_)
    rw [ht] at hB
    obtain ⟨hP, hD⟩ := hB
    obtain ⟨er, own5, hI⟩ := hq
    subst er
    refine lv_iload hx hb dL_law_648 (lv_at hl 0 rfl) ?_
    refine lv_icmp_eq (tgt := 655) hx hb dL_law_650 (by decide) (fun c650 => ?_) (fun c650 => absurd (rfl) c650)
    have hV : ∀ i, i < (np + 1) → 0 ≤ ((upd V np ((nI k598) + (0 : Int32))) i).toInt ∧ ((upd V np ((nI k598) + (0 : Int32))) i).toInt ≤ 1000 := fun i hi => by
      by_cases q : i = np
      · rw [q, upd_at, hz0]; omega
      · rw [upd_ne q]; exact hV i (by omega)
    refine lv_iinc (v := (1 : Int32)) (lv' := [(16, .int (1 : Int32)), (7, .int (nI (np + 1))), (0, .ref b), (1, .ref (ad 0)), (2, .ref (ad 12)), (3, .ref (ad 13)), (4, .ref (ad 14)), (5, .ref (ad 15)), (6, .ref (ad 16)), (8, .int (nI n)), (9, .long al), (12, .int ind), (13, .int cr), (14, .int (nI tu)), (11, .int (nI X)), (15, .int y15)]) hx hb dL_law_655 hl (k := 1) rfl (by decide) (by decide) rfl (fun ls hl => ?_)
    refine lv_goto (tgt := 538) hx hb dL_law_658 (by decide) ?_
    refine lv_iload hx hb dL_law_538 (lv_at hl 0 rfl) ?_
    refine lv_iconst (v := 2) hx hb dL_law_540 (by decide) ?_
    refine lv_icmp_ge (tgt := 661) hx hb dL_law_541 (by decide) (fun c541 => absurd c541 (by decide)) (fun c541 => ?_)
    refine lv_aload_n hx hb dL_law_544 rfl (lv_at hl 4 rfl) ?_
    refine lv_iload hx hb dL_law_545 (lv_at hl 1 rfl) ?_
    refine lv_iload hx hb dL_law_547 (lv_at hl 14 rfl) ?_
    refine lv_iconst (v := 4) hx hb dL_law_549 (by decide) ?_
    refine lv_ishr hx hb dL_law_550 ?_
    refine re_i (y := nI (X / 2 ^ 4)) (pk_shrN hX31 _ 4 (by decide +kernel)) ?_
    refine lv_iconst (v := 3) hx hb dL_law_551 (by decide) ?_
    refine re_i (y := nI 3) (show (3 : Int32) = nI 3 from rfl) ?_
    refine vp_callSi (va_Run.run (va_runS (As := [.int (nI (X / 2 ^ 4)), .int (nI 3)]) (rest := [.int (nI (np + 1)), .ref (ad 12)]) ⟨hx, hb, hml, hown, hts⟩ (metL_at l (X / 2 ^ 4) 3 (by omega) (by decide) (by decide)) (va_cwS 2 hts gL_law_L_at rfl rfl rfl (by decide +kernel) ⟨Nat.le_of_ble_eq_true rfl, Nat.le_of_ble_eq_true rfl⟩) ⟨pc0_b, pc0_u⟩ rfl rfl hl.1 rfl (lv_room (Nat.le_of_ble_eq_true rfl)) dL_law_552 ⟨by show cells + 6 + 0 ≤ 600130; omega, by show slots + 227 + 0 ≤ 7301080; omega⟩)) (fun r h => ?_)
    obtain ⟨k552b, hk552b, rfl⟩ := h
    refine lv_bipush (v := 40) hx hb dL_law_555 (by decide) ?_
    refine lv_imul hx hb dL_law_557 ?_
    refine va_iast hx hb hK hP hD hS 12 0 hI.2.1.1.1 htI (vp_in_nI (by omega) (by decide)) dL_law_558 (fun H locs hP hD hS => ?_)
    rw [nI_clamp (show (np + 1) < 2 ^ 31 by omega)] at hP hD
    have hI := hI.w12 (np + 1) ((nI k552b) * (40 : Int32)) (Nat.le_refl _)
    refine lv_aload_n hx hb dL_law_559 rfl (lv_at hl 5 rfl) ?_
    refine lv_iload hx hb dL_law_560 (lv_at hl 1 rfl) ?_
    refine lv_iconst (v := 1) hx hb dL_law_562 (by decide) ?_
    refine lv_iload hx hb dL_law_563 (lv_at hl 14 rfl) ?_
    refine lv_bipush (v := 8) hx hb dL_law_565 (by decide) ?_
    refine lv_ishr hx hb dL_law_567 ?_
    refine re_i (y := nI (X / 2 ^ 8)) (pk_shrN hX31 _ 8 (by decide +kernel)) ?_
    refine lv_iconst (v := 2) hx hb dL_law_568 (by decide) ?_
    refine re_i (y := nI 2) (show (2 : Int32) = nI 2 from rfl) ?_
    refine vp_callSi (va_Run.run (va_runS (As := [.int (nI (X / 2 ^ 8)), .int (nI 2)]) (rest := [.int (1 : Int32), .int (nI (np + 1)), .ref (ad 13)]) ⟨hx, hb, hml, hown, hts⟩ (metL_at l (X / 2 ^ 8) 2 (by omega) (by decide) (by decide)) (va_cwS 2 hts gL_law_L_at rfl rfl rfl (by decide +kernel) ⟨Nat.le_of_ble_eq_true rfl, Nat.le_of_ble_eq_true rfl⟩) ⟨pc0_b, pc0_u⟩ rfl rfl hl.1 rfl (lv_room (Nat.le_of_ble_eq_true rfl)) dL_law_569 ⟨by show cells + 6 + 0 ≤ 600130; omega, by show slots + 227 + 0 ≤ 7301080; omega⟩)) (fun r h => ?_)
    obtain ⟨k569b, hk569b, rfl⟩ := h
    refine lv_iadd hx hb dL_law_572 ?_
    refine lv_iload hx hb dL_law_573 (lv_at hl 0 rfl) ?_
    refine lv_if_ne (tgt := 583) hx hb dL_law_575 (by decide) (fun c575 => ?_) (fun c575 => absurd c575 (by decide))
    refine lv_bipush (v := -100) hx hb dL_law_583 (by decide) ?_
    refine lv_imul hx hb dL_law_585 ?_
    refine va_iast hx hb hK hP hD hS 13 0 hI.2.1.2.1.1 htI (vp_in_nI (by omega) (by decide)) dL_law_586 (fun H locs hP hD hS => ?_)
    rw [nI_clamp (show (np + 1) < 2 ^ 31 by omega)] at hP hD
    have hI := hI.w13 (np + 1) (((1 : Int32) + (nI k569b)) * (-100 : Int32)) (Nat.le_refl _)
    refine lv_aload hx hb dL_law_587 (lv_at hl 6 rfl) ?_
    refine lv_iload hx hb dL_law_589 (lv_at hl 1 rfl) ?_
    refine lv_iload hx hb dL_law_591 (lv_at hl 14 rfl) ?_
    refine lv_bipush (v := 12) hx hb dL_law_593 (by decide) ?_
    refine lv_ishr hx hb dL_law_595 ?_
    refine re_i (y := nI (X / 2 ^ 12)) (pk_shrN hX31 _ 12 (by decide +kernel)) ?_
    refine lv_bipush (v := 50) hx hb dL_law_596 (by decide) ?_
    refine re_i (y := nI 50) (show (50 : Int32) = nI 50 from rfl) ?_
    refine vp_callSi (va_Run.run (va_runS (As := [.int (nI (X / 2 ^ 12)), .int (nI 50)]) (rest := [.int (nI (np + 1)), .ref (ad 14)]) ⟨hx, hb, hml, hown, hts⟩ (metL_at l (X / 2 ^ 12) 50 (by omega) (by decide) (by decide)) (va_cwS 2 hts gL_law_L_at rfl rfl rfl (by decide +kernel) ⟨Nat.le_of_ble_eq_true rfl, Nat.le_of_ble_eq_true rfl⟩) ⟨pc0_b, pc0_u⟩ rfl rfl hl.1 rfl (lv_room (Nat.le_of_ble_eq_true rfl)) dL_law_598 ⟨by show cells + 6 + 0 ≤ 600130; omega, by show slots + 227 + 0 ≤ 7301080; omega⟩)) (fun r h => ?_)
    obtain ⟨k598b, hk598b, rfl⟩ := h
    refine lv_iload hx hb dL_law_601 (lv_at hl 0 rfl) ?_
    refine lv_if_ne (tgt := 610) hx hb dL_law_603 (by decide) (fun c603 => ?_) (fun c603 => absurd c603 (by decide))
    refine lv_iload hx hb dL_law_610 (lv_at hl 14 rfl) ?_
    refine lv_bipush (v := 18) hx hb dL_law_612 (by decide) ?_
    refine lv_ishr hx hb dL_law_614 ?_
    refine re_i (y := nI (X / 2 ^ 18)) (pk_shrN hX31 _ 18 (by decide +kernel)) ?_
    refine lv_bipush (v := 30) hx hb dL_law_615 (by decide) ?_
    refine re_i (y := nI 30) (show (30 : Int32) = nI 30 from rfl) ?_
    refine vp_callSi (va_Run.run (va_runS (As := [.int (nI (X / 2 ^ 18)), .int (nI 30)]) (rest := [.int (nI k598b), .int (nI (np + 1)), .ref (ad 14)]) ⟨hx, hb, hml, hown, hts⟩ (metL_at l (X / 2 ^ 18) 30 (by omega) (by decide) (by decide)) (va_cwS 2 hts gL_law_L_at rfl rfl rfl (by decide +kernel) ⟨Nat.le_of_ble_eq_true rfl, Nat.le_of_ble_eq_true rfl⟩) ⟨pc0_b, pc0_u⟩ rfl rfl hl.1 rfl (lv_room (Nat.le_of_ble_eq_true rfl)) dL_law_617 ⟨by show cells + 6 + 0 ≤ 600130; omega, by show slots + 227 + 0 ≤ 7301080; omega⟩)) (fun r h => ?_)
    obtain ⟨k617, hk617, rfl⟩ := h
    refine lv_iadd hx hb dL_law_620 ?_
    refine va_iast hx hb hK hP hD hS 14 0 hI.2.1.2.2.1.1 htI (vp_in_nI (by omega) (by decide)) dL_law_621 (fun H locs hP hD hS => ?_)
    rw [nI_clamp (show (np + 1) < 2 ^ 31 by omega)] at hP hD
    have hI := hI.w14 (np + 1) ((nI k598b) + (nI k617)) (Nat.le_refl _)
    refine lv_iinc (v := nI (np + 1 + 1)) (lv' := [(7, .int (nI (np + 1 + 1))), (16, .int (1 : Int32)), (0, .ref b), (1, .ref (ad 0)), (2, .ref (ad 12)), (3, .ref (ad 13)), (4, .ref (ad 14)), (5, .ref (ad 15)), (6, .ref (ad 16)), (8, .int (nI n)), (9, .long al), (12, .int ind), (13, .int cr), (14, .int (nI tu)), (11, .int (nI X)), (15, .int y15)]) hx hb dL_law_622 hl (k := 1) rfl (nI_1 (np + 1)) (by decide) rfl (fun ls hl => ?_)
    refine lv_aload_n hx hb dL_law_625 rfl (lv_at hl 3 rfl) ?_
    refine lv_aload_n hx hb dL_law_626 rfl (lv_at hl 4 rfl) ?_
    refine lv_iload hx hb dL_law_627 (lv_at hl 0 rfl) ?_
    refine lv_iconst (v := 1) hx hb dL_law_629 (by decide) ?_
    refine lv_isub hx hb dL_law_630 ?_
    refine re_i (y := nI (np + 1)) (nI_m1 (np + 1)) ?_
    refine va_iald hx hb hK hP 12 0 hI.2.1.1.1 htI (vp_in_nI (by omega) (by decide)) dL_law_631 ?_
    refine rd_i (j := np + 1) (nI_clamp (by omega)) ?_
    refine re_i (y := (nI k552b) * (40 : Int32)) (upd_at) ?_
    refine lv_aload_n hx hb dL_law_632 rfl (lv_at hl 5 rfl) ?_
    refine lv_iload hx hb dL_law_633 (lv_at hl 0 rfl) ?_
    refine lv_iconst (v := 1) hx hb dL_law_635 (by decide) ?_
    refine lv_isub hx hb dL_law_636 ?_
    refine re_i (y := nI (np + 1)) (nI_m1 (np + 1)) ?_
    refine va_iald hx hb hK hP 13 0 hI.2.1.2.1.1 htI (vp_in_nI (by omega) (by decide)) dL_law_637 ?_
    refine rd_i (j := np + 1) (nI_clamp (by omega)) ?_
    refine re_i (y := ((1 : Int32) + (nI k569b)) * (-100 : Int32)) (upd_at) ?_
    refine lv_aload hx hb dL_law_638 (lv_at hl 6 rfl) ?_
    refine lv_iload hx hb dL_law_640 (lv_at hl 0 rfl) ?_
    refine lv_iconst (v := 1) hx hb dL_law_642 (by decide) ?_
    refine lv_isub hx hb dL_law_643 ?_
    refine re_i (y := nI (np + 1)) (nI_m1 (np + 1)) ?_
    refine va_iald hx hb hK hP 14 0 hI.2.1.2.2.1.1 htI (vp_in_nI (by omega) (by decide)) dL_law_644 ?_
    refine rd_i (j := np + 1) (nI_clamp (by omega)) ?_
    refine re_i (y := (nI k598b) + (nI k617)) (upd_at) ?_
    have hx1 : ((nI k552b) * (40 : Int32)).toInt = (k552b : Int) * 40 := i_mul (nI_toInt (show k552b < 2 ^ 31 by omega)) (show (40 : Int32).toInt = 40 by decide) (by omega) (by omega)
    have hs1 : (1 + nI k569b).toInt = 1 + (k569b : Int) := i_add (show (1 : Int32).toInt = 1 by decide) (nI_toInt (show k569b < 2 ^ 31 by omega)) (by omega) (by omega)
    have hy1 : (((1 : Int32) + (nI k569b)) * (-100 : Int32)).toInt = (1 + (k569b : Int)) * (-100) := i_mul hs1 (show (-100 : Int32).toInt = -100 by decide) (by omega) (by omega)
    have hz1 : ((nI k598b) + (nI k617)).toInt = (k598b : Int) + (k617 : Int) := i_add (nI_toInt (show k598b < 2 ^ 31 by omega)) (nI_toInt (show k617 < 2 ^ 31 by omega)) (by omega) (by omega)
    refine va_calli (va_runV (As := [.int ((nI k552b) * (40 : Int32)), .int (((1 : Int32) + (nI k569b)) * (-100 : Int32)), .int ((nI k598b) + (nI k617))]) (rest := []) ⟨hx, hb, hml, hown, hts⟩ (op_point hnt G tys htI htO hI ((nI k552b) * (40 : Int32)) (((1 : Int32) + (nI k569b)) * (-100 : Int32)) ((nI k598b) + (nI k617)) (cd_if (oR_of (a := 0) (b := 300) (by decide) (by decide) hx1 (by omega) (by omega)) (cd_if (oR_of (a := -1000) (b := 1000) (by decide) (by decide) hy1 (by omega) (by omega)) (cd_if (oR_of (a := -1000000) (b := 1000000) (by decide) (by decide) hz1 (by omega) (by omega)) (cd_if (show ¬ nI 60 ≤ nI (np + 1) from nI_ge (by omega) (by decide)) rfl)))) (by omega) upd_at upd_at upd_at) (cwV 3 hts gL_law_X7_point rfl rfl rfl (by decide +kernel) ⟨Nat.le_of_ble_eq_true rfl, Nat.le_of_ble_eq_true rfl⟩) ⟨pcX_b, va_recv hK hP (ci := 7) (q0 := 0) rfl hI.1.1, pcX_u hP hK hD hS hA hE⟩ rfl rfl hl.1 rfl (lv_room (Nat.le_of_ble_eq_true rfl)) dL_law_645 ⟨by show cells + 6 + 6 ≤ 600130; omega, by show slots + 227 + 227 ≤ 7301080; omega⟩) hS (fun q _ h => h) (fun q h => h) (fun rp w t H locs ht hvm hq hB hsz hk1 hS => ?_)
    rw [ht] at hB
    obtain ⟨hP, hD⟩ := hB
    obtain ⟨er, own6, hI⟩ := hq
    subst er
    refine lv_iload hx hb dL_law_648 (lv_at hl 0 rfl) ?_
    refine lv_icmp_eq (tgt := 655) hx hb dL_law_650 (by decide) (fun c650 => ?_) (fun c650 => absurd (rfl) c650)
    have hV : ∀ i, i < (np + 1 + 1) → 0 ≤ ((upd (upd V np ((nI k598) + (0 : Int32))) (np + 1) ((nI k598b) + (nI k617))) i).toInt ∧ ((upd (upd V np ((nI k598) + (0 : Int32))) (np + 1) ((nI k598b) + (nI k617))) i).toInt ≤ 1000 := fun i hi => by
      by_cases q : i = (np + 1)
      · rw [q, upd_at, hz1]; omega
      · rw [upd_ne q]; exact hV i (by omega)
    refine lv_iinc (v := (2 : Int32)) (lv' := [(16, .int (2 : Int32)), (7, .int (nI (np + 1 + 1))), (0, .ref b), (1, .ref (ad 0)), (2, .ref (ad 12)), (3, .ref (ad 13)), (4, .ref (ad 14)), (5, .ref (ad 15)), (6, .ref (ad 16)), (8, .int (nI n)), (9, .long al), (12, .int ind), (13, .int cr), (14, .int (nI tu)), (11, .int (nI X)), (15, .int y15)]) hx hb dL_law_655 hl (k := 1) rfl (by decide) (by decide) rfl (fun ls hl => ?_)
    refine lv_goto (tgt := 538) hx hb dL_law_658 (by decide) ?_
    refine lv_iload hx hb dL_law_538 (lv_at hl 0 rfl) ?_
    refine lv_iconst (v := 2) hx hb dL_law_540 (by decide) ?_
    refine lv_icmp_ge (tgt := 661) hx hb dL_law_541 (by decide) (fun c541 => ?_) (fun c541 => absurd (by decide) c541)
    refine W.widen (k := cells + 60) (n := slots + 1200) (by omega) (by omega) ?_
    exact kk n (np + 1 + 1) al _ _ _ _ ⟨_, _, _, _, _, _, _, _, _, _, _, _, _, _, _, _, _, hI, hal, hT, (by omega), hV⟩ hP hD hS (lv_sub hl [2, 3, 4, 5, 6, 7, 8, 1, 9, 10, 11, 12, 13] rfl)
