set_option maxHeartbeats 4000000 in
set_option maxRecDepth 100000 in
theorem turns {p : Program} {l : Launch} {e : Env} {s : State} {m : MethodId} {below : List Frame} {meth : Method} {c : Code} (hnt : l.stackTraces = false) {G : va_G} {tys : List (ClassId × FieldType)} {tE mi : Nat} {cI cO : ClassId} (htI : tI tys cI) (htO : tO tys cO) {b L : Nat} {xs : Nat → Int32} (hL : L ≤ 260) (C0 : lw_At p s m meth c b L xs) {ad : Nat → Nat} (hK : va_K G vwCl tys s) (hE : env (fun q : Nat => s.heap.size ≤ q) tE mi s s.heap) {ind cr : Int32} {C9 S9 : Nat} {Q : State → Prop} (hc9 : C9 ≤ 600130) (hs9 : S9 ≤ 7301080) (kk : ∀ (n np : Nat) (al : Int64) (ws : va_W) (H : Heap) (locs : List Loc) (ls : Array Slot), ti cI cO tE ad ind cr n np al ws → va_P G vwCl ws H → va_D (fun q : Nat => s.heap.size ≤ q) ws → va_S (fun q : Nat => s.heap.size ≤ q) s.heap H locs → lv_has ls 26 [(0, .ref b), (1, .ref (ad 0)), (2, .ref (ad 12)), (3, .ref (ad 13)), (4, .ref (ad 14)), (5, .ref (ad 15)), (6, .ref (ad 16)), (7, .int (nI np)), (8, .int (nI n)), (9, .long al), (12, .int ind), (13, .int cr), (14, .int (nI 60))] → W p l e room_1 s m #[Value.ref b] below meth c H locs (C9) (S9) Q (F0 m 778 ls [])) : ∀ (d tu cells slots : Nat), tu + d = 60 → cells + 100 * d ≤ C9 → slots + 2000 * d ≤ S9 → ∀ (n np : Nat) (al : Int64) (ws : va_W) (H : Heap) (locs : List Loc) (ls : Array Slot), ti cI cO tE ad ind cr n np al ws → va_P G vwCl ws H → va_D (fun q : Nat => s.heap.size ≤ q) ws → va_S (fun q : Nat => s.heap.size ≤ q) s.heap H locs → lv_has ls 26 [(0, .ref b), (1, .ref (ad 0)), (2, .ref (ad 12)), (3, .ref (ad 13)), (4, .ref (ad 14)), (5, .ref (ad 15)), (6, .ref (ad 16)), (7, .int (nI np)), (8, .int (nI n)), (9, .long al), (12, .int ind), (13, .int cr), (14, .int (nI tu))] → W p l e room_1 s m #[Value.ref b] below meth c H locs (cells) (slots) Q (F0 m 98 ls []) := by
  have C1 := C0
  obtain ⟨hx, hb, hr, hml, hown, hts0, hX, hbl, hlocks, hgv⟩ := C1
  have hts : ∀ w ∈ wsL_law, w.before #[Value.ref b] s = true := fun w h => hts0 w (wsL_law_in w h)
  have hown : s.vm.findClass RL = some m.cls := hown
  have hA : ∀ q : Nat, s.heap.size ≤ q → (fun q : Nat => s.heap.size ≤ q) q := fun _ h => h
  have hbA : ¬ (fun q : Nat => s.heap.size ≤ q) b := Nat.not_le.mpr hbl
  intro d
  induction d with
  | zero =>
    intro tu cells slots hd hc hs n np al ws H locs ls hti hP hD hS hl
    have h60 : tu = 60 := by omega
    subst h60
    refine lv_iload hx hb dL_law_98 (lv_at hl 12 rfl) ?_
    refine lv_bipush (v := 60) hx hb dL_law_100 (by decide) ?_
    refine lv_icmp_ge (tgt := 778) hx hb dL_law_102 (by decide) (fun c102 => ?_) (fun c102 => absurd (show nI 60 ≤ nI 60 from nI_le (Nat.le_refl 60) (by decide)) c102)
    refine W.widen (k := C9) (n := S9) (by omega) (by omega) ?_
    exact kk n np al ws H locs ls hti hP hD hS (lv_sub hl [0, 1, 2, 3, 4, 5, 6, 7, 8, 9, 10, 11, 12] rfl)
  | succ d ih =>
    intro tu cells slots hd hc hs n np al ws H locs ls hti hP hD hS hl
    have hcA : cells + 60 ≤ 600130 := by omega
    have hsA : slots + 1200 ≤ 7301080 := by omega
    have tail : ∀ (n2 np2 : Nat) (al2 : Int64) (w : va_W) (H1 : Heap) (locs1 : List Loc) (ls1 : Array Slot), ti cI cO tE ad ind cr n2 np2 al2 w → va_P G vwCl w H1 → va_D (fun q : Nat => s.heap.size ≤ q) w → va_S (fun q : Nat => s.heap.size ≤ q) s.heap H1 locs1 → lv_has ls1 26 [(0, .ref b), (1, .ref (ad 0)), (2, .ref (ad 12)), (3, .ref (ad 13)), (4, .ref (ad 14)), (5, .ref (ad 15)), (6, .ref (ad 16)), (7, .int (nI np2)), (8, .int (nI n2)), (9, .long al2), (12, .int ind), (13, .int cr), (14, .int (nI tu))] → W p l e room_1 s m #[Value.ref b] below meth c H1 locs1 (cells + 60) (slots + 1200) Q (F0 m 661 ls1 []) := by
      intro n2 np2 al2 w H1 locs1 ls1 hti hP hD hS hl
      refine tail_661 hnt htI htO hL C0 hK hE hti hP hD hS hl (by omega) (by omega) (fun w H1 locs1 ls1 hti hP hD hS hl => ?_)
      exact ih (tu + 1) _ _ (by omega) (by omega) (by omega) n2 np2 al2 w H1 locs1 ls1 hti hP hD hS hl
    refine lv_iload hx hb dL_law_98 (lv_at hl 12 rfl) ?_
    refine lv_bipush (v := 60) hx hb dL_law_100 (by decide) ?_
    refine lv_icmp_ge (tgt := 778) hx hb dL_law_102 (by decide) (fun c102 => absurd c102 (nI_ge (a := tu) (b := 60) (by omega) (by decide))) (fun c102 => ?_)
    refine lv_aload_n hx hb dL_law_105 rfl (lv_at hl 0 rfl) ?_
    refine lv_iconst (v := 1) hx hb dL_law_106 (by decide) ?_
    refine lv_iload hx hb dL_law_107 (lv_at hl 12 rfl) ?_
    refine lv_iadd hx hb dL_law_109 ?_
    refine re_i (y := nI (1 + tu)) (nI_add 1 tu) ?_
    refine vp_callSi (va_Run.run (va_runS (As := [.ref b, .int (nI (1 + tu))]) (rest := []) ⟨hx, hb, hml, hown, hts⟩ (metL_cell l hL (1 + tu) (by omega)) (va_cwS 2 hts gL_law_L_cell rfl rfl rfl (by decide +kernel) ⟨Nat.le_of_ble_eq_true rfl, Nat.le_of_ble_eq_true rfl⟩) ⟨pcS_b, pcS_u hX hbl hbA hS⟩ rfl rfl hl.1 rfl (lv_room (Nat.le_of_ble_eq_true rfl)) dL_law_110 ⟨by show cells + 0 ≤ 600130; omega, by show slots + 0 ≤ 7301080; omega⟩)) (fun r h => ?_)
    refine lv_ldc (v := 2147483647) hx hb hown (hts0 _ cw_17) dL_law_113 ?_
    refine lv_iand hx hb dL_law_115 ?_
    obtain ⟨X, hX31, eX⟩ := pk_andE r (m := 2147483647) 31 (by decide +kernel)
    refine re_i (y := nI X) (eX) ?_
    refine lv_istore (lv' := [(11, .int (nI X)), (0, .ref b), (1, .ref (ad 0)), (2, .ref (ad 12)), (3, .ref (ad 13)), (4, .ref (ad 14)), (5, .ref (ad 15)), (6, .ref (ad 16)), (7, .int (nI np)), (8, .int (nI n)), (9, .long al), (12, .int ind), (13, .int cr), (14, .int (nI tu))]) hx hb dL_law_116 hl (by decide) rfl (fun ls hl => ?_)
    refine lv_iload hx hb dL_law_118 (lv_at hl 0 rfl) ?_
    refine lv_bipush (v := 8) hx hb dL_law_120 (by decide) ?_
    refine re_i (y := nI 8) (show (8 : Int32) = nI 8 from rfl) ?_
    refine vp_callSi (va_Run.run (va_runS (As := [.int (nI X), .int (nI 8)]) (rest := []) ⟨hx, hb, hml, hown, hts⟩ (metL_at l X 8 (by omega) (by decide) (by decide)) (va_cwS 2 hts gL_law_L_at rfl rfl rfl (by decide +kernel) ⟨Nat.le_of_ble_eq_true rfl, Nat.le_of_ble_eq_true rfl⟩) ⟨pc0_b, pc0_u⟩ rfl rfl hl.1 rfl (lv_room (Nat.le_of_ble_eq_true rfl)) dL_law_122 ⟨by show cells + 0 ≤ 600130; omega, by show slots + 0 ≤ 7301080; omega⟩)) (fun r h => ?_)
    obtain ⟨k122, hk122, rfl⟩ := h
    obtain ⟨y15, ey⟩ : ∃ z : Int32, z = nI k122 := ⟨_, rfl⟩
    refine re_i (y := y15) (ey.symm) ?_
    refine lv_istore (lv' := [(15, .int y15), (11, .int (nI X)), (0, .ref b), (1, .ref (ad 0)), (2, .ref (ad 12)), (3, .ref (ad 13)), (4, .ref (ad 14)), (5, .ref (ad 15)), (6, .ref (ad 16)), (7, .int (nI np)), (8, .int (nI n)), (9, .long al), (12, .int ind), (13, .int cr), (14, .int (nI tu))]) hx hb dL_law_125 hl (by decide) rfl (fun ls hl => ?_)
    refine lv_iload hx hb dL_law_127 (lv_at hl 0 rfl) ?_
    refine lv_if_ne (tgt := 212) hx hb dL_law_129 (by decide) (fun c129 => ?_) (fun c129 => ?_)
    · refine lv_iload hx hb dL_law_212 (lv_at hl 0 rfl) ?_
      refine lv_iconst (v := 1) hx hb dL_law_214 (by decide) ?_
      refine lv_icmp_ne (tgt := 248) hx hb dL_law_215 (by decide) (fun c215 => ?_) (fun c215 => ?_)
      · refine lv_iload hx hb dL_law_248 (lv_at hl 0 rfl) ?_
        refine lv_iconst (v := 2) hx hb dL_law_250 (by decide) ?_
        refine lv_icmp_ne (tgt := 273) hx hb dL_law_251 (by decide) (fun c251 => ?_) (fun c251 => ?_)
        · refine lv_iload hx hb dL_law_273 (lv_at hl 0 rfl) ?_
          refine lv_iconst (v := 3) hx hb dL_law_275 (by decide) ?_
          refine lv_icmp_ne (tgt := 360) hx hb dL_law_276 (by decide) (fun c276 => ?_) (fun c276 => ?_)
          · refine lv_iload hx hb dL_law_360 (lv_at hl 0 rfl) ?_
            refine lv_iconst (v := 4) hx hb dL_law_362 (by decide) ?_
            refine lv_icmp_ne (tgt := 390) hx hb dL_law_363 (by decide) (fun c363 => ?_) (fun c363 => ?_)
            · refine lv_iload hx hb dL_law_390 (lv_at hl 0 rfl) ?_
              refine lv_iconst (v := 5) hx hb dL_law_392 (by decide) ?_
              refine lv_icmp_ne (tgt := 528) hx hb dL_law_393 (by decide) (fun c393 => ?_) (fun c393 => ?_)
              · exact act_6 hnt htI htO hL C0 hK hE hX31 hti hP hD hS (lv_sub hl [2, 3, 4, 5, 6, 7, 8, 9, 10, 11, 12, 13, 14, 1, 0] rfl) hcA hsA tail
              · exact act_5 hnt htI htO hL C0 hK hE hX31 hti hP hD hS (lv_sub hl [2, 3, 4, 5, 6, 7, 8, 9, 10, 11, 12, 13, 14, 1, 0] rfl) hcA hsA tail
            · exact act_4 hnt htI htO hL C0 hK hE hX31 hti hP hD hS (lv_sub hl [2, 3, 4, 5, 6, 7, 8, 9, 10, 11, 12, 13, 14, 1, 0] rfl) hcA hsA tail
          · refine lv_iload hx hb dL_law_279 (lv_at hl 10 rfl) ?_
            refine lv_bipush (v := 20) hx hb dL_law_281 (by decide) ?_
            refine lv_icmp_ge (tgt := 360) hx hb dL_law_283 (by decide) (fun cn => ?_) (fun cn => ?_)
            · refine lv_iload hx hb dL_law_360 (lv_at hl 0 rfl) ?_
              refine lv_iconst (v := 4) hx hb dL_law_362 (by decide) ?_
              refine lv_icmp_ne (tgt := 390) hx hb dL_law_363 (by decide) (fun c363 => ?_) (fun c363 => ?_)
              · refine lv_iload hx hb dL_law_390 (lv_at hl 0 rfl) ?_
                refine lv_iconst (v := 5) hx hb dL_law_392 (by decide) ?_
                refine lv_icmp_ne (tgt := 528) hx hb dL_law_393 (by decide) (fun c393 => ?_) (fun c393 => ?_)
                · exact act_6 hnt htI htO hL C0 hK hE hX31 hti hP hD hS (lv_sub hl [2, 3, 4, 5, 6, 7, 8, 9, 10, 11, 12, 13, 14, 1, 0] rfl) hcA hsA tail
                · exact act_5 hnt htI htO hL C0 hK hE hX31 hti hP hD hS (lv_sub hl [2, 3, 4, 5, 6, 7, 8, 9, 10, 11, 12, 13, 14, 1, 0] rfl) hcA hsA tail
              · exact act_4 hnt htI htO hL C0 hK hE hX31 hti hP hD hS (lv_sub hl [2, 3, 4, 5, 6, 7, 8, 9, 10, 11, 12, 13, 14, 1, 0] rfl) hcA hsA tail
            · have hn20 : n < 20 := by
                obtain ⟨own, P, M, V, S, T, cel, ct, cf, co, ca, wd, num, cur, du, wi, dm, hI, -⟩ := hti
                have h20 : n ≤ 20 := hI.n20
                exact Nat.lt_of_not_le (fun q => cn (show nI 20 ≤ nI n from nI_le q (by omega)))
              exact act_3 hnt htI htO hL C0 hK hE hX31 hn20 hti hP hD hS (lv_sub hl [2, 3, 4, 5, 6, 7, 8, 9, 10, 11, 12, 13, 14, 1, 0] rfl) hcA hsA tail
        · exact act_2 hnt htI htO hL C0 hK hE hX31 hti hP hD hS (lv_sub hl [2, 3, 4, 5, 6, 7, 8, 9, 10, 11, 12, 13, 14, 1, 0] rfl) hcA hsA tail
      · exact act_1 hnt htI htO hL C0 hK hE hX31 hti hP hD hS (lv_sub hl [2, 3, 4, 5, 6, 7, 8, 9, 10, 11, 12, 13, 14, 1, 0] rfl) hcA hsA tail
    · exact act_0 hnt htI htO hL C0 hK hE hX31 hti hP hD hS (lv_sub hl [2, 3, 4, 5, 6, 7, 8, 9, 10, 11, 12, 13, 14, 1, 0] rfl) hcA hsA tail
