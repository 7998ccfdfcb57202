set_option maxHeartbeats 4000000 in
set_option maxRecDepth 100000 in
theorem a_claim {p : Program} {l : Launch} {e : Env} {s : State} {m : MethodId} {below : List Frame} {meth : Method} {c : Code} (hnt : l.stackTraces = false) {G : va_G} {tys : List (ClassId × FieldType)} {tE mi : Nat} {cI cO : ClassId} (htI : tI tys cI) (htO : tO tys cO) {b L : Nat} {xs : Nat → Int32} (hL : L ≤ 260) (C0 : lw_At p s m meth c b L xs) {ad : Nat → Nat} (hK : va_K G vwCl tys s) (hE : env (fun q : Nat => s.heap.size ≤ q) tE mi s s.heap) {np k : Nat} {ws : va_W} {H : Heap} {locs : List Loc} {cells slots : Nat} {Q : State → Prop} {ls : Array Slot} (hk8 : k < 8) (hp0 : 0 < np) (hci : ci cI cO tE ad np k ws) (hP : va_P G vwCl ws H) (hD : va_D (fun q : Nat => s.heap.size ≤ q) ws) (hS : va_S (fun q : Nat => s.heap.size ≤ q) s.heap H locs) (hl : lv_has ls 26 [(0, .ref b), (1, .ref (ad 0)), (2, .ref (ad 12)), (3, .ref (ad 13)), (4, .ref (ad 14)), (7, .int (nI np)), (14, .int (nI k))]) (hc : cells + 40 ≤ 600130) (hs : slots + 500 ≤ 7301080) (kk : ∀ (w : va_W) (H1 : Heap) (locs1 : List Loc) (ls1 : Array Slot), ci cI cO tE ad np (k + 1) w → va_P G vwCl w H1 → va_D (fun q : Nat => s.heap.size ≤ q) w → va_S (fun q : Nat => s.heap.size ≤ q) s.heap H1 locs1 → lv_has ls1 26 [(0, .ref b), (1, .ref (ad 0)), (2, .ref (ad 12)), (3, .ref (ad 13)), (4, .ref (ad 14)), (7, .int (nI np)), (14, .int (nI (k + 1)))] → W p l e room_1 s m #[Value.ref b] below meth c H1 locs1 (cells + 40) (slots + 500) Q (F0 m 781 ls1 [])) : W p l e room_1 s m #[Value.ref b] below meth c H locs (cells) (slots) Q (F0 m 793 ls []) := by
  have C1 := C0
  obtain ⟨hx, hb, hr, hml, hown, hts0, hX, hbl, hlocks, hgv⟩ := C1
  have hts : ∀ w ∈ wsL_law, w.before #[Value.ref b] s = true := fun w h => hts0 w (wsL_law_in w h)
  have hown : s.vm.findClass RL = some m.cls := hown
  have hA : ∀ q : Nat, s.heap.size ≤ q → (fun q : Nat => s.heap.size ≤ q) q := fun _ h => h
  have hbA : ¬ (fun q : Nat => s.heap.size ≤ q) b := Nat.not_le.mpr hbl
  obtain ⟨own, P, M, V, S, T, n, cel, ind, cr, num, cur, du, wi, dm, ct, cf, co, ca, wd, hI, hnp, hV⟩ := hci
  refine lv_aload_n hx hb dL_law_793 rfl (lv_at hl 0 rfl) ?_
  refine lv_bipush (v := 61) hx hb dL_law_794 (by decide) ?_
  refine lv_iload hx hb dL_law_796 (lv_at hl 6 rfl) ?_
  refine lv_iadd hx hb dL_law_798 ?_
  refine re_i (y := nI (61 + k)) (nI_add 61 k) ?_
  refine vp_callSi (va_Run.run (va_runS (As := [.ref b, .int (nI (61 + k))]) (rest := []) ⟨hx, hb, hml, hown, hts⟩ (metL_cell l hL (61 + k) (by omega)) (va_cwS 2 hts gL_law_L_cell rfl rfl rfl (by decide +kernel) ⟨Nat.le_of_ble_eq_true rfl, Nat.le_of_ble_eq_true rfl⟩) ⟨pcS_b, pcS_u hX hbl hbA hS⟩ rfl rfl hl.1 rfl (lv_room (Nat.le_of_ble_eq_true rfl)) dL_law_799 ⟨by show cells + 0 ≤ 600130; omega, by show slots + 0 ≤ 7301080; omega⟩)) (fun r h => ?_)
  refine lv_ldc (v := 2147483647) hx hb hown (hts0 _ cw_17) dL_law_802 ?_
  refine lv_iand hx hb dL_law_804 ?_
  obtain ⟨X, hX31, eX⟩ := pk_andE r (m := 2147483647) 31 (by decide +kernel)
  refine re_i (y := nI X) (eX) ?_
  refine lv_istore (lv' := [(11, .int (nI X)), (0, .ref b), (1, .ref (ad 0)), (2, .ref (ad 12)), (3, .ref (ad 13)), (4, .ref (ad 14)), (7, .int (nI np)), (14, .int (nI k))]) hx hb dL_law_805 hl (by decide) rfl (fun ls hl => ?_)
  refine lv_iload hx hb dL_law_807 (lv_at hl 0 rfl) ?_
  refine lv_iload hx hb dL_law_809 (lv_at hl 6 rfl) ?_
  refine vp_callSi (va_Run.run (va_runS (As := [.int (nI X), .int (nI np)]) (rest := []) ⟨hx, hb, hml, hown, hts⟩ (metL_at l X np (by omega) (by omega) (by omega)) (va_cwS 2 hts gL_law_L_at rfl rfl rfl (by decide +kernel) ⟨Nat.le_of_ble_eq_true rfl, Nat.le_of_ble_eq_true rfl⟩) ⟨pc0_b, pc0_u⟩ rfl rfl hl.1 rfl (lv_room (Nat.le_of_ble_eq_true rfl)) dL_law_811 ⟨by show cells + 0 ≤ 600130; omega, by show slots + 0 ≤ 7301080; omega⟩)) (fun r h => ?_)
  obtain ⟨k811, hk811, rfl⟩ := h
  refine lv_iconst (v := 3) hx hb dL_law_814 (by decide) ?_
  refine lv_idiv hx hb dL_law_815 (by decide) ?_
  refine re_i (y := nI (k811 / 3)) (pk_div (a := k811) (d := 3) (by omega) (by decide) (by decide)) ?_
  obtain ⟨fr, efr⟩ : ∃ z : Nat, z = k811 / 3 := ⟨_, rfl⟩
  rw [← efr]
  have hfp : fr < np := by omega
  refine lv_istore (lv' := [(15, .int (nI fr)), (11, .int (nI X)), (0, .ref b), (1, .ref (ad 0)), (2, .ref (ad 12)), (3, .ref (ad 13)), (4, .ref (ad 14)), (7, .int (nI np)), (14, .int (nI k))]) hx hb dL_law_816 hl (by decide) rfl (fun ls hl => ?_)
  refine lv_iload hx hb dL_law_818 (lv_at hl 0 rfl) ?_
  refine lv_iload hx hb dL_law_820 (lv_at hl 1 rfl) ?_
  refine lv_bipush (v := 8) hx hb dL_law_822 (by decide) ?_
  refine lv_ishr hx hb dL_law_824 ?_
  refine re_i (y := nI (X / 2 ^ 8)) (pk_shrN hX31 _ 8 (by decide +kernel)) ?_
  refine lv_iload hx hb dL_law_825 (lv_at hl 7 rfl) ?_
  refine lv_iload hx hb dL_law_827 (lv_at hl 0 rfl) ?_
  refine lv_isub hx hb dL_law_829 ?_
  refine re_i (y := nI (np - fr)) (pk_sub (by omega)) ?_
  refine vp_callSi (va_Run.run (va_runS (As := [.int (nI (X / 2 ^ 8)), .int (nI (np - fr))]) (rest := [.int (nI fr)]) ⟨hx, hb, hml, hown, hts⟩ (metL_at l (X / 2 ^ 8) (np - fr) (by omega) (by omega) (by omega)) (va_cwS 2 hts gL_law_L_at rfl rfl rfl (by decide +kernel) ⟨Nat.le_of_ble_eq_true rfl, Nat.le_of_ble_eq_true rfl⟩) ⟨pc0_b, pc0_u⟩ rfl rfl hl.1 rfl (lv_room (Nat.le_of_ble_eq_true rfl)) dL_law_830 ⟨by show cells + 0 ≤ 600130; omega, by show slots + 0 ≤ 7301080; omega⟩)) (fun r h => ?_)
  obtain ⟨k830, hk830, rfl⟩ := h
  refine lv_iadd hx hb dL_law_833 ?_
  refine re_i (y := nI (fr + k830)) (nI_add fr k830) ?_
  obtain ⟨to, eto⟩ : ∃ z : Nat, z = fr + k830 := ⟨_, rfl⟩
  rw [← eto]
  have htp : to < np := by omega
  have hft : fr ≤ to := by omega
  refine lv_istore (lv' := [(16, .int (nI to)), (15, .int (nI fr)), (11, .int (nI X)), (0, .ref b), (1, .ref (ad 0)), (2, .ref (ad 12)), (3, .ref (ad 13)), (4, .ref (ad 14)), (7, .int (nI np)), (14, .int (nI k))]) hx hb dL_law_834 hl (by decide) rfl (fun ls hl => ?_)
  refine lv_iconst (v := 1) hx hb dL_law_836 (by decide) ?_
  refine lv_iload hx hb dL_law_837 (lv_at hl 2 rfl) ?_
  refine lv_iconst (v := 4) hx hb dL_law_839 (by decide) ?_
  refine lv_ishr hx hb dL_law_840 ?_
  refine re_i (y := nI (X / 2 ^ 4)) (pk_shrN hX31 _ 4 (by decide +kernel)) ?_
  refine lv_bipush (v := 120) hx hb dL_law_841 (by decide) ?_
  refine re_i (y := nI 120) (show (120 : Int32) = nI 120 from rfl) ?_
  refine vp_callSi (va_Run.run (va_runS (As := [.int (nI (X / 2 ^ 4)), .int (nI 120)]) (rest := [.int (1 : Int32)]) ⟨hx, hb, hml, hown, hts⟩ (metL_at l (X / 2 ^ 4) 120 (by omega) (by decide) (by decide)) (va_cwS 2 hts gL_law_L_at rfl rfl rfl (by decide +kernel) ⟨Nat.le_of_ble_eq_true rfl, Nat.le_of_ble_eq_true rfl⟩) ⟨pc0_b, pc0_u⟩ rfl rfl hl.1 rfl (lv_room (Nat.le_of_ble_eq_true rfl)) dL_law_843 ⟨by show cells + 0 ≤ 600130; omega, by show slots + 0 ≤ 7301080; omega⟩)) (fun r h => ?_)
  obtain ⟨k843, hk843, rfl⟩ := h
  refine lv_iadd hx hb dL_law_846 ?_
  refine re_i (y := nI (1 + k843)) (nI_add 1 k843) ?_
  obtain ⟨wa, ewa⟩ : ∃ z : Nat, z = 1 + k843 := ⟨_, rfl⟩
  rw [← ewa]
  refine lv_istore (lv' := [(17, .int (nI wa)), (16, .int (nI to)), (15, .int (nI fr)), (11, .int (nI X)), (0, .ref b), (1, .ref (ad 0)), (2, .ref (ad 12)), (3, .ref (ad 13)), (4, .ref (ad 14)), (7, .int (nI np)), (14, .int (nI k))]) hx hb dL_law_847 hl (by decide) rfl (fun ls hl => ?_)
  refine lv_iload hx hb dL_law_849 (lv_at hl 3 rfl) ?_
  refine lv_bipush (v := 16) hx hb dL_law_851 (by decide) ?_
  refine lv_ishr hx hb dL_law_853 ?_
  refine re_i (y := nI (X / 2 ^ 16)) (pk_shrN hX31 _ 16 (by decide +kernel)) ?_
  refine lv_bipush (v := 20) hx hb dL_law_854 (by decide) ?_
  refine re_i (y := nI 20) (show (20 : Int32) = nI 20 from rfl) ?_
  refine vp_callSi (va_Run.run (va_runS (As := [.int (nI (X / 2 ^ 16)), .int (nI 20)]) (rest := []) ⟨hx, hb, hml, hown, hts⟩ (metL_at l (X / 2 ^ 16) 20 (by omega) (by decide) (by decide)) (va_cwS 2 hts gL_law_L_at rfl rfl rfl (by decide +kernel) ⟨Nat.le_of_ble_eq_true rfl, Nat.le_of_ble_eq_true rfl⟩) ⟨pc0_b, pc0_u⟩ rfl rfl hl.1 rfl (lv_room (Nat.le_of_ble_eq_true rfl)) dL_law_856 ⟨by show cells + 0 ≤ 600130; omega, by show slots + 0 ≤ 7301080; omega⟩)) (fun r h => ?_)
  obtain ⟨k856, hk856, rfl⟩ := h
  obtain ⟨no, eno⟩ : ∃ z : Nat, z = k856 := ⟨_, rfl⟩
  rw [← eno]
  have hno : no < 20 := by omega
  refine lv_istore (lv' := [(18, .int (nI no)), (17, .int (nI wa)), (16, .int (nI to)), (15, .int (nI fr)), (11, .int (nI X)), (0, .ref b), (1, .ref (ad 0)), (2, .ref (ad 12)), (3, .ref (ad 13)), (4, .ref (ad 14)), (7, .int (nI np)), (14, .int (nI k))]) hx hb dL_law_859 hl (by decide) rfl (fun ls hl => ?_)
  refine lv_aload_n hx hb dL_law_861 rfl (lv_at hl 6 rfl) ?_
  refine lv_iload hx hb dL_law_862 (lv_at hl 1 rfl) ?_
  refine lv_iload hx hb dL_law_864 (lv_at hl 3 rfl) ?_
  refine lv_iload hx hb dL_law_866 (lv_at hl 2 rfl) ?_
  refine va_calli (va_runV (As := [.int (nI wa), .int (nI fr), .int (nI to)]) (rest := []) ⟨hx, hb, hml, hown, hts⟩ (op_claim hnt G tys htI htO hI (nI wa) fr to (oR_of (a := 1) (b := 300) (by decide) (by decide) (nI_toInt (by omega)) (by omega) (by omega)) hft htp hk8) (cwV 3 hts gL_law_X7_claim rfl rfl rfl (by decide +kernel) ⟨Nat.le_of_ble_eq_true rfl, Nat.le_of_ble_eq_true rfl⟩) ⟨pcX_b, va_recv hK hP (ci := 7) (q0 := 0) rfl hI.1.1, pcX_u hP hK hD hS hA hE⟩ rfl rfl hl.1 rfl (lv_room (Nat.le_of_ble_eq_true rfl)) dL_law_868 ⟨by show cells + 8 ≤ 600130; omega, by show slots + 242 ≤ 7301080; omega⟩) hS (fun q _ h => h) (fun q h => h) (fun rc w t H locs ht hvm hq hB hsz hk1 hS => ?_)
  rw [ht] at hB
  obtain ⟨hP, hD⟩ := hB
  obtain ⟨er, own2, hI⟩ := hq
  refine re_i (y := nI k) (er) ?_
  refine lv_iload hx hb dL_law_871 (lv_at hl 11 rfl) ?_
  refine lv_icmp_eq (tgt := 878) hx hb dL_law_873 (by decide) (fun c873 => ?_) (fun c873 => absurd (rfl) c873)
  refine lv_iconst (v := 0) hx hb dL_law_878 (by decide) ?_
  refine lv_istore (lv' := [(19, .int (0 : Int32)), (18, .int (nI no)), (17, .int (nI wa)), (16, .int (nI to)), (15, .int (nI fr)), (11, .int (nI X)), (0, .ref b), (1, .ref (ad 0)), (2, .ref (ad 12)), (3, .ref (ad 13)), (4, .ref (ad 14)), (7, .int (nI np)), (14, .int (nI k))]) hx hb dL_law_879 hl (by decide) rfl (fun ls hl => ?_)
  refine lv_iconst (v := 0) hx hb dL_law_881 (by decide) ?_
  refine lv_istore (lv' := [(20, .int (0 : Int32)), (19, .int (0 : Int32)), (18, .int (nI no)), (17, .int (nI wa)), (16, .int (nI to)), (15, .int (nI fr)), (11, .int (nI X)), (0, .ref b), (1, .ref (ad 0)), (2, .ref (ad 12)), (3, .ref (ad 13)), (4, .ref (ad 14)), (7, .int (nI np)), (14, .int (nI k))]) hx hb dL_law_882 hl (by decide) rfl (fun ls hl => ?_)
  refine lv_iconst (v := 0) hx hb dL_law_884 (by decide) ?_
  refine lv_istore (lv' := [(21, .int (0 : Int32)), (20, .int (0 : Int32)), (19, .int (0 : Int32)), (18, .int (nI no)), (17, .int (nI wa)), (16, .int (nI to)), (15, .int (nI fr)), (11, .int (nI X)), (0, .ref b), (1, .ref (ad 0)), (2, .ref (ad 12)), (3, .ref (ad 13)), (4, .ref (ad 14)), (7, .int (nI np)), (14, .int (nI k))]) hx hb dL_law_885 hl (by decide) rfl (fun ls hl => ?_)
  have hz9 : va_up wd k (fun _ => (0 : Int32)) k = fun _ => 0 := by rw [va_up_self]
  refine houses hnt htI htO hL C0 hK hE (C9 := cells + 22) (S9 := slots + 326) hX31 (Nat.lt_succ_self k) (by omega) (by omega) (fun own d nt wd ws H locs ls hd7 he7 hI e1 e2 hP hD hS hl => ?_) 7 0 _ _ (by omega) (by show cells + 8 + 2 * 7 ≤ _; omega) (by show slots + 242 + 12 * 7 ≤ _; omega) own2 0 0 _ _ _ _ ls (Nat.le_refl 0) (Nat.le_refl 0) hI (by rw [hz9]; exact hCnt_z 1 (by decide) 7) (by rw [hz9]; exact hCnt_z 2 (by decide) 7) (fun j _ _ => by rw [hz9]) hP hD hS (lv_sub hl [0, 1, 2, 3, 4, 5, 6, 7, 8, 9, 10, 11, 12, 13, 14] rfl)
  refine lv_iconst (v := 0) hx hb dL_law_964 (by decide) ?_
  refine lv_istore (lv' := [(21, .int (0 : Int32)), (20, .int (nI nt)), (19, .int (nI d)), (18, .int (nI no)), (17, .int (nI wa)), (16, .int (nI to)), (15, .int (nI fr)), (11, .int (nI X)), (0, .ref b), (1, .ref (ad 0)), (2, .ref (ad 12)), (3, .ref (ad 13)), (4, .ref (ad 14)), (7, .int (nI np)), (14, .int (nI k))]) hx hb dL_law_965 hl (by decide) rfl (fun ls hl => ?_)
  refine lv_iconst (v := 1) hx hb dL_law_967 (by decide) ?_
  refine lv_istore (lv' := [(22, .int (1 : Int32)), (21, .int (0 : Int32)), (20, .int (nI nt)), (19, .int (nI d)), (18, .int (nI no)), (17, .int (nI wa)), (16, .int (nI to)), (15, .int (nI fr)), (11, .int (nI X)), (0, .ref b), (1, .ref (ad 0)), (2, .ref (ad 12)), (3, .ref (ad 13)), (4, .ref (ad 14)), (7, .int (nI np)), (14, .int (nI k))]) hx hb dL_law_968 hl (by decide) rfl (fun ls hl => ?_)
  refine lv_iload hx hb dL_law_970 (lv_at hl 7 rfl) ?_
  refine lv_istore (lv' := [(23, .int (nI fr)), (22, .int (1 : Int32)), (21, .int (0 : Int32)), (20, .int (nI nt)), (19, .int (nI d)), (18, .int (nI no)), (17, .int (nI wa)), (16, .int (nI to)), (15, .int (nI fr)), (11, .int (nI X)), (0, .ref b), (1, .ref (ad 0)), (2, .ref (ad 12)), (3, .ref (ad 13)), (4, .ref (ad 14)), (7, .int (nI np)), (14, .int (nI k))]) hx hb dL_law_972 hl (by decide) rfl (fun ls hl => ?_)
  refine pairsO hnt htI htO hL C0 hK hE (N := to + 1 - fr) hI hV hnp (by omega) htp (by omega) (by omega) hP hD hS (fun hh gg ls hw hl => ?_) (to + 1 - fr) 0 (by omega) 0 1 ls lwP_0 (lv_sub hl [0, 1, 2, 3, 4, 5, 6, 7, 8, 10, 11, 12, 13, 14, 15, 16] rfl)
  refine judged hnt htI htO hL C0 hK hE (N := to + 1 - fr) hI hV hnp (by omega) htp (by omega) (by omega) hP hD hS (Nat.lt_succ_self k) hno upd_at upd_at upd_at upd_at e1 e2 hd7 he7 hw hl (by omega) (by omega) hft (fun H locs ls hP hD hS hl => ?_)
  refine lv_iinc (v := nI (k + 1)) (lv' := [(14, .int (nI (k + 1))), (0, .ref b), (1, .ref (ad 0)), (2, .ref (ad 12)), (3, .ref (ad 13)), (4, .ref (ad 14)), (7, .int (nI np))]) hx hb dL_law_1175 hl (k := 6) rfl (nI_1 k) (by decide) rfl (fun ls hl => ?_)
  refine lv_goto (tgt := 781) hx hb dL_law_1178 (by decide) ?_
  refine W.widen (k := cells + 40) (n := slots + 500) (by omega) (by omega) ?_
  exact kk _ _ _ ls ⟨own, P, M, V, S, T, n, cel, ind, cr, num, cur, du, wi, dm, _, _, _, _, _, hI, hnp, hV⟩ hP hD hS (lv_sub hl [1, 2, 3, 4, 5, 6, 0] rfl)
set_option maxHeartbeats 4000000 in
set_option maxRecDepth 100000 in
theorem claims30 {p : Program} {l : Launch} {e : Env} {s : State} {m : MethodId} {below : List Frame} {meth : Method} {c : Code} (hnt : l.stackTraces = false) {G : va_G} {tys : List (ClassId × FieldType)} {tE mi : Nat} {cI cO : ClassId} (htI : tI tys cI) (htO : tO tys cO) {b L : Nat} {xs : Nat → Int32} (hL : L ≤ 260) (C0 : lw_At p s m meth c b L xs) {ad : Nat → Nat} (hK : va_K G vwCl tys s) (hE : env (fun q : Nat => s.heap.size ≤ q) tE mi s s.heap) {np : Nat} (hnp : np ≤ 57) : ∀ (d k cells slots : Nat), k + d = 8 → cells + 40 * d ≤ 600130 → slots + 500 * d ≤ 7301080 → ∀ (ws : va_W) (H : Heap) (locs : List Loc) (ls : Array Slot), ci cI cO tE ad np k ws → va_P G vwCl ws H → va_D (fun q : Nat => s.heap.size ≤ q) ws → va_S (fun q : Nat => s.heap.size ≤ q) s.heap H locs → lv_has ls 26 [(0, .ref b), (1, .ref (ad 0)), (2, .ref (ad 12)), (3, .ref (ad 13)), (4, .ref (ad 14)), (7, .int (nI np)), (14, .int (nI k))] → W p l e room_1 s m #[Value.ref b] below meth c H locs (cells) (slots) (lw_Z below #[Value.ref b] s) (F0 m 781 ls []) := by
  have C1 := C0
  obtain ⟨hx, hb, hr, hml, hown, hts0, hX, hbl, hlocks, hgv⟩ := C1
  have hts : ∀ w ∈ wsL_law, w.before #[Value.ref b] s = true := fun w h => hts0 w (wsL_law_in w h)
  have hown : s.vm.findClass RL = some m.cls := hown
  have hA : ∀ q : Nat, s.heap.size ≤ q → (fun q : Nat => s.heap.size ≤ q) q := fun _ h => h
  have hbA : ¬ (fun q : Nat => s.heap.size ≤ q) b := Nat.not_le.mpr hbl
  intro d
  induction d with
  | zero =>
    intro k cells slots hk hc hs ws H locs ls hci hP hD hS hl
    have h8 : k = 8 := by omega
    subst h8
    refine lv_iload hx hb dL_law_781 (lv_at hl 6 rfl) ?_
    refine lv_bipush (v := 8) hx hb dL_law_783 (by decide) ?_
    refine lv_icmp_ge (tgt := 1181) hx hb dL_law_785 (by decide) (fun c785 => ?_) (fun c785 => absurd (show nI 8 ≤ nI 8 from nI_le (Nat.le_refl 8) (by decide)) c785)
    refine lv_iconst (v := 1) hx hb dL_law_1181 (by decide) ?_
    refine va_forget (fun q hq => hS.2.2 q hq) ?_
    refine W.widen (k := 600130) (n := 7301080) (by omega) (by omega) ?_
    exact lw_ret hx hb hr hlocks dL_law_1182
  | succ d ih =>
    intro k cells slots hk hc hs ws H locs ls hci hP hD hS hl
    refine lv_iload hx hb dL_law_781 (lv_at hl 6 rfl) ?_
    refine lv_bipush (v := 8) hx hb dL_law_783 (by decide) ?_
    refine lv_icmp_ge (tgt := 1181) hx hb dL_law_785 (by decide) (fun c785 => absurd c785 (nI_ge (a := k) (b := 8) (by omega) (by decide))) (fun c785 => ?_)
    refine lv_iload hx hb dL_law_788 (lv_at hl 5 rfl) ?_
    refine lv_if_le (tgt := 1181) hx hb dL_law_790 (by decide) (fun cp => ?_) (fun cp => ?_)
    · refine lv_iconst (v := 1) hx hb dL_law_1181 (by decide) ?_
      refine va_forget (fun q hq => hS.2.2 q hq) ?_
      refine W.widen (k := 600130) (n := 7301080) (by omega) (by omega) ?_
      exact lw_ret hx hb hr hlocks dL_law_1182
    · have hp0 : 0 < np := Nat.pos_of_ne_zero (fun q => cp (by rw [q]; decide))
      refine a_claim hnt htI htO hL C0 hK hE (by omega) hp0 hci hP hD hS hl (by omega) (by omega) (fun w H1 locs1 ls1 hci hP hD hS hl => ?_)
      exact ih (k + 1) _ _ (by omega) (by omega) (by omega) w H1 locs1 ls1 hci hP hD hS hl
