set_option maxHeartbeats 4000000 in
set_option maxRecDepth 100000 in
theorem clr {p : Program} {l : Launch} {e : Env} {s : State} {m : MethodId} {below : List Frame} {meth : Method} {c : Code} (hnt : l.stackTraces = false) {G : va_G} {tys : List (ClassId × FieldType)} {tE mi : Nat} {cI cO : ClassId} (htI : tI tys cI) (htO : tO tys cO) {b L : Nat} {xs : Nat → Int32} (hL : L ≤ 260) (C0 : lw_At p s m meth c b L xs) {ad : Nat → Nat} (hK : va_K G vwCl tys s) (hE : env (fun q : Nat => s.heap.size ≤ q) tE mi s s.heap) {own : Nat → Nat} {P M V T cel ct cf co ca : Nat → Int32} {wd : Nat → Nat → Int32} {num cur du ind cr : Int32} {wi dm al : Int64} {n np tu : Nat} {cells slots : Nat} {Q : State → Prop} (kk : ∀ (S : Nat → Int32) (ws : va_W) (H : Heap) (locs : List Loc) (ls : Array Slot), inv cI cO tE ad own ws P M V S T n cel ind cr num cur du wi dm np 0 ct cf co ca wd → (∀ c, c < 48 → S c = 0) → va_P G vwCl ws H → va_D (fun q : Nat => s.heap.size ≤ q) ws → va_S (fun q : Nat => s.heap.size ≤ q) s.heap H locs → lv_has ls 26 [(0, .ref b), (1, .ref (ad 0)), (2, .ref (ad 12)), (3, .ref (ad 13)), (4, .ref (ad 14)), (5, .ref (ad 15)), (6, .ref (ad 16)), (7, .int (nI np)), (8, .int (nI n)), (9, .long al), (12, .int ind), (13, .int cr), (14, .int (nI tu))] → W p l e room_1 s m #[Value.ref b] below meth c H locs (cells) (slots) Q (F0 m 708 ls [])) : ∀ (d i : Nat), i + d = 48 → ∀ (S : Nat → Int32) (ws : va_W) (H : Heap) (locs : List Loc) (ls : Array Slot), inv cI cO tE ad own ws P M V S T n cel ind cr num cur du wi dm np 0 ct cf co ca wd → (∀ c, c < i → S c = 0) → va_P G vwCl ws H → va_D (fun q : Nat => s.heap.size ≤ q) ws → va_S (fun q : Nat => s.heap.size ≤ q) s.heap H locs → lv_has ls 26 [(16, .int (nI i)), (0, .ref b), (1, .ref (ad 0)), (2, .ref (ad 12)), (3, .ref (ad 13)), (4, .ref (ad 14)), (5, .ref (ad 15)), (6, .ref (ad 16)), (7, .int (nI np)), (8, .int (nI n)), (9, .long al), (12, .int ind), (13, .int cr), (14, .int (nI tu))] → W p l e room_1 s m #[Value.ref b] below meth c H locs (cells) (slots) Q (F0 m 689 ls []) := by
  obtain ⟨hx, hb, hr, hml, hown, hts0, hX, hbl, hlocks, hgv⟩ := C0
  have hts : ∀ w ∈ wsL_law, w.before #[Value.ref b] s = true := fun w h => hts0 w (wsL_law_in w h)
  have hown : s.vm.findClass RL = some m.cls := hown
  have hA : ∀ q : Nat, s.heap.size ≤ q → (fun q : Nat => s.heap.size ≤ q) q := fun _ h => h
  have hbA : ¬ (fun q : Nat => s.heap.size ≤ q) b := Nat.not_le.mpr hbl
  intro d
  induction d with
  | zero =>
    intro i hi S ws H locs ls hI hz hP hD hS hl
    have hi48 : i = 48 := by omega
    subst hi48
    refine lv_iload hx hb dL_law_689 (lv_at hl 0 rfl) ?_
    refine lv_bipush (v := 48) hx hb dL_law_691 (by decide) ?_
    refine lv_icmp_ge (tgt := 708) hx hb dL_law_693 (by decide) (fun c693 => ?_) (fun c693 => absurd (show nI 48 ≤ nI 48 from nI_le (Nat.le_refl 48) (by decide)) c693)
    exact kk S ws H locs ls hI hz hP hD hS (lv_sub hl [1, 2, 3, 4, 5, 6, 7, 8, 9, 10, 11, 12, 13] rfl)
  | succ d ih =>
    intro i hi S ws H locs ls hI hz hP hD hS hl
    refine lv_iload hx hb dL_law_689 (lv_at hl 0 rfl) ?_
    refine lv_bipush (v := 48) hx hb dL_law_691 (by decide) ?_
    refine lv_icmp_ge (tgt := 708) hx hb dL_law_693 (by decide) (fun c693 => absurd c693 (nI_ge (a := i) (b := 48) (by omega) (by decide))) (fun c693 => ?_)
    refine lv_aload hx hb dL_law_696 (lv_at hl 6 rfl) ?_
    refine lv_iload hx hb dL_law_698 (lv_at hl 0 rfl) ?_
    refine lv_iconst (v := 0) hx hb dL_law_700 (by decide) ?_
    refine va_iast hx hb hK hP hD hS 15 0 hI.2.1.2.2.2.1.1 htI (vp_in_nI (by omega) (by decide)) dL_law_701 (fun H locs hP hD hS => ?_)
    rw [nI_clamp (show i < 2 ^ 31 by omega)] at hP hD
    have hI := hI.w15 i (0 : Int32) 
    refine lv_iinc (v := nI (i + 1)) (lv' := [(16, .int (nI (i + 1))), (0, .ref b), (1, .ref (ad 0)), (2, .ref (ad 12)), (3, .ref (ad 13)), (4, .ref (ad 14)), (5, .ref (ad 15)), (6, .ref (ad 16)), (7, .int (nI np)), (8, .int (nI n)), (9, .long al), (12, .int ind), (13, .int cr), (14, .int (nI tu))]) hx hb dL_law_702 hl (k := 0) rfl (nI_1 i) (by decide) rfl (fun ls hl => ?_)
    refine lv_goto (tgt := 689) hx hb dL_law_705 (by decide) ?_
    refine ih (i + 1) (by omega) _ _ _ _ _ hI (fun c hc9 => ?_) hP hD hS (lv_sub hl [0, 1, 2, 3, 4, 5, 6, 7, 8, 9, 10, 11, 12, 13] rfl)
    by_cases q : c = i
    · rw [q]; exact upd_at
    · rw [upd_ne q]; exact hz c (by omega)
set_option maxHeartbeats 4000000 in
set_option maxRecDepth 100000 in
theorem whl {p : Program} {l : Launch} {e : Env} {s : State} {m : MethodId} {below : List Frame} {meth : Method} {c : Code} (hnt : l.stackTraces = false) {G : va_G} {tys : List (ClassId × FieldType)} {tE mi : Nat} {cI cO : ClassId} (htI : tI tys cI) (htO : tO tys cO) {b L : Nat} {xs : Nat → Int32} (hL : L ≤ 260) (C0 : lw_At p s m meth c b L xs) {ad : Nat → Nat} (hK : va_K G vwCl tys s) (hE : env (fun q : Nat => s.heap.size ≤ q) tE mi s s.heap) {own : Nat → Nat} {P M V cel ct cf co ca : Nat → Int32} {wd : Nat → Nat → Int32} {num cur du ind cr : Int32} {wi dm al : Int64} {n np tu : Nat} {C9 S9 : Nat} {Q : State → Prop} (hc9 : C9 ≤ 600130) (hs9 : S9 ≤ 7301080) (kk : ∀ (S T : Nat → Int32) (ws : va_W) (H : Heap) (locs : List Loc) (ls : Array Slot), inv cI cO tE ad own ws P M V S T n cel ind cr num cur du wi dm np 0 ct cf co ca wd → (∀ k, k < 20 → T k = 1 → k < n ∧ cel k = -1) → va_P G vwCl ws H → va_D (fun q : Nat => s.heap.size ≤ q) ws → va_S (fun q : Nat => s.heap.size ≤ q) s.heap H locs → lv_has ls 26 [(0, .ref b), (1, .ref (ad 0)), (2, .ref (ad 12)), (3, .ref (ad 13)), (4, .ref (ad 14)), (5, .ref (ad 15)), (6, .ref (ad 16)), (7, .int (nI np)), (8, .int (nI n)), (9, .long al), (12, .int ind), (13, .int cr), (14, .int (nI tu))] → W p l e room_1 s m #[Value.ref b] below meth c H locs (C9) (S9) Q (F0 m 772 ls [])) : ∀ (d k cells slots : Nat), k + d = n → cells + d ≤ C9 → slots + 6 * d ≤ S9 → ∀ (S T : Nat → Int32) (ws : va_W) (H : Heap) (locs : List Loc) (ls : Array Slot), inv cI cO tE ad own ws P M V S T n cel ind cr num cur du wi dm np 0 ct cf co ca wd → (∀ c, c < 48 → S c = 1 → ∃ j, j < k ∧ cel j = nI c) → (∀ k, k < 20 → T k = 1 → k < n ∧ cel k = -1) → va_P G vwCl ws H → va_D (fun q : Nat => s.heap.size ≤ q) ws → va_S (fun q : Nat => s.heap.size ≤ q) s.heap H locs → lv_has ls 26 [(16, .int (nI k)), (0, .ref b), (1, .ref (ad 0)), (2, .ref (ad 12)), (3, .ref (ad 13)), (4, .ref (ad 14)), (5, .ref (ad 15)), (6, .ref (ad 16)), (7, .int (nI np)), (8, .int (nI n)), (9, .long al), (12, .int ind), (13, .int cr), (14, .int (nI tu))] → W p l e room_1 s m #[Value.ref b] below meth c H locs (cells) (slots) Q (F0 m 711 ls []) := by
  obtain ⟨hx, hb, hr, hml, hown, hts0, hX, hbl, hlocks, hgv⟩ := C0
  have hts : ∀ w ∈ wsL_law, w.before #[Value.ref b] s = true := fun w h => hts0 w (wsL_law_in w h)
  have hown : s.vm.findClass RL = some m.cls := hown
  have hA : ∀ q : Nat, s.heap.size ≤ q → (fun q : Nat => s.heap.size ≤ q) q := fun _ h => h
  have hbA : ¬ (fun q : Nat => s.heap.size ≤ q) b := Nat.not_le.mpr hbl
  intro d
  induction d with
  | zero =>
    intro k cells slots hk hc hs S T ws H locs ls hI hSS hT hP hD hS hl
    have hn20 : n ≤ 20 := hI.n20
    refine lv_iload hx hb dL_law_711 (lv_at hl 0 rfl) ?_
    refine lv_iload hx hb dL_law_713 (lv_at hl 9 rfl) ?_
    refine lv_icmp_ge (tgt := 772) hx hb dL_law_715 (by decide) (fun c715 => ?_) (fun c715 => absurd (nI_le (a := n) (b := k) (by omega) (by omega)) c715)
    refine W.widen (k := C9) (n := S9) (by omega) (by omega) ?_
    exact kk S T ws H locs ls hI hT hP hD hS (lv_sub hl [1, 2, 3, 4, 5, 6, 7, 8, 9, 10, 11, 12, 13] rfl)
  | succ d ih =>
    intro k cells slots hk hc hs S T ws H locs ls hI hSS hT hP hD hS hl
    obtain ⟨a3, a4, dr, he, dep, hf1, hf2, hf3, o2, o3, o4, hn20, hok⟩ := hI.2.2.1
    refine lv_iload hx hb dL_law_711 (lv_at hl 0 rfl) ?_
    refine lv_iload hx hb dL_law_713 (lv_at hl 9 rfl) ?_
    refine lv_icmp_ge (tgt := 772) hx hb dL_law_715 (by decide) (fun c715 => absurd c715 (nI_ge (a := k) (b := n) (by omega) (by omega))) (fun c715 => ?_)
    refine lv_aload_n hx hb dL_law_718 rfl (lv_at hl 2 rfl) ?_
    refine lv_iload hx hb dL_law_719 (lv_at hl 0 rfl) ?_
    refine va_calli (va_runV (As := [.int (nI k)]) (rest := []) ⟨hx, hb, hml, hown, hts⟩ (op_whirlAt hnt G tys htI htO hI k (by omega)) (cwV 1 hts gL_law_X7_whirlAt rfl rfl rfl (by decide +kernel) ⟨Nat.le_of_ble_eq_true rfl, Nat.le_of_ble_eq_true rfl⟩) ⟨pcX_b, va_recv hK hP (ci := 7) (q0 := 0) rfl hI.1.1, pcX_u hP hK hD hS hA hE⟩ rfl rfl hl.1 rfl (lv_room (Nat.le_of_ble_eq_true rfl)) dL_law_721 ⟨by show cells + 1 ≤ 600130; omega, by show slots + 6 ≤ 7301080; omega⟩) hS (fun q _ h => h) (fun q h => h) (fun r u t H locs ht hvm hq hB hsz hk1 hS => ?_)
    rw [ht] at hB
    obtain ⟨hP, hD⟩ := hB
    refine re_i (y := cel k) (hq) ?_
    refine lv_istore (lv' := [(17, .int (cel k)), (16, .int (nI k)), (0, .ref b), (1, .ref (ad 0)), (2, .ref (ad 12)), (3, .ref (ad 13)), (4, .ref (ad 14)), (5, .ref (ad 15)), (6, .ref (ad 16)), (7, .int (nI np)), (8, .int (nI n)), (9, .long al), (12, .int ind), (13, .int cr), (14, .int (nI tu))]) hx hb dL_law_724 hl (by decide) rfl (fun ls hl => ?_)
    refine lv_iload hx hb dL_law_726 (lv_at hl 0 rfl) ?_
    refine lv_if_lt (tgt := 760) hx hb dL_law_728 (by decide) (fun cw => ?_) (fun cw => ?_)
    · have hm1 : cel k = -1 := (hok.1 k (by omega)).resolve_right (fun q => q.1 cw)
      refine lv_aload hx hb dL_law_760 (lv_at hl 8 rfl) ?_
      refine lv_iload hx hb dL_law_762 (lv_at hl 1 rfl) ?_
      refine lv_iconst (v := 1) hx hb dL_law_764 (by decide) ?_
      refine va_iast hx hb hK hP hD hS 16 0 hI.2.1.2.2.2.2.1 htI (vp_in_nI (by omega) (by decide)) dL_law_765 (fun H locs hP hD hS => ?_)
      rw [nI_clamp (show k < 2 ^ 31 by omega)] at hP hD
      have hI := hI.w16 k (1 : Int32) 
      refine lv_iinc (v := nI (k + 1)) (lv' := [(16, .int (nI (k + 1))), (17, .int (cel k)), (0, .ref b), (1, .ref (ad 0)), (2, .ref (ad 12)), (3, .ref (ad 13)), (4, .ref (ad 14)), (5, .ref (ad 15)), (6, .ref (ad 16)), (7, .int (nI np)), (8, .int (nI n)), (9, .long al), (12, .int ind), (13, .int cr), (14, .int (nI tu))]) hx hb dL_law_766 hl (k := 1) rfl (nI_1 k) (by decide) rfl (fun ls hl => ?_)
      refine lv_goto (tgt := 711) hx hb dL_law_769 (by decide) ?_
      refine ih (k + 1) _ _ (by omega) (by show cells + 1 + d ≤ C9; omega) (by show slots + 6 + 6 * d ≤ S9; omega) _ _ _ _ _ _ hI ?_ ?_ hP hD hS (lv_sub hl [0, 2, 3, 4, 5, 6, 7, 8, 9, 10, 11, 12, 13, 14] rfl)
      · intro c hc9 h9
        obtain ⟨j, hj, ej⟩ := hSS c hc9 h9
        exact ⟨j, by omega, ej⟩
      · intro j hj h9
        by_cases q : j = k
        · rw [q]; exact ⟨by omega, hm1⟩
        · rw [upd_ne q] at h9; exact hT j hj h9
    · have hm1 : ¬ cel k = -1 := fun q => cw (by rw [q]; decide)
      obtain ⟨z9, hc48, ec⟩ := gd_nat ((hok.1 k (by omega)).resolve_left hm1)
      have hTk : ¬ T k = 1 := fun q => hm1 (hT k (by omega) q).2
      have hSk : ¬ S z9 = 1 := fun q => by
        obtain ⟨j, hj, ej⟩ := hSS z9 hc48 q
        have := hok.2.2 j k (by omega) (by omega) (ej.trans ec.symm) (by rw [ej, ← ec]; exact hm1)
        omega
      rw [ec] at hl
      refine lv_aload hx hb dL_law_731 (lv_at hl 8 rfl) ?_
      refine lv_iload hx hb dL_law_733 (lv_at hl 1 rfl) ?_
      refine va_iald hx hb hK hP 16 0 hI.2.1.2.2.2.2.1 htI (vp_in_nI (by omega) (by decide)) dL_law_735 ?_
      refine rd_i (j := k) (nI_clamp (by omega)) ?_
      refine lv_iconst (v := 1) hx hb dL_law_736 (by decide) ?_
      refine lv_icmp_eq (tgt := 749) hx hb dL_law_737 (by decide) (fun c737 => absurd c737 (hTk)) (fun c737 => ?_)
      refine lv_aload hx hb dL_law_740 (lv_at hl 7 rfl) ?_
      refine lv_iload hx hb dL_law_742 (lv_at hl 0 rfl) ?_
      refine va_iald hx hb hK hP 15 0 hI.2.1.2.2.2.1.1 htI (vp_in_nI (by omega) (by decide)) dL_law_744 ?_
      refine rd_i (j := z9) (nI_clamp (by omega)) ?_
      refine lv_iconst (v := 1) hx hb dL_law_745 (by decide) ?_
      refine lv_icmp_ne (tgt := 751) hx hb dL_law_746 (by decide) (fun c746 => ?_) (fun c746 => absurd c746 (hSk))
      refine lv_aload hx hb dL_law_751 (lv_at hl 7 rfl) ?_
      refine lv_iload hx hb dL_law_753 (lv_at hl 0 rfl) ?_
      refine lv_iconst (v := 1) hx hb dL_law_755 (by decide) ?_
      refine va_iast hx hb hK hP hD hS 15 0 hI.2.1.2.2.2.1.1 htI (vp_in_nI (by omega) (by decide)) dL_law_756 (fun H locs hP hD hS => ?_)
      rw [nI_clamp (show z9 < 2 ^ 31 by omega)] at hP hD
      have hI := hI.w15 z9 (1 : Int32) 
      refine lv_goto (tgt := 766) hx hb dL_law_757 (by decide) ?_
      refine lv_iinc (v := nI (k + 1)) (lv' := [(16, .int (nI (k + 1))), (17, .int (nI z9)), (0, .ref b), (1, .ref (ad 0)), (2, .ref (ad 12)), (3, .ref (ad 13)), (4, .ref (ad 14)), (5, .ref (ad 15)), (6, .ref (ad 16)), (7, .int (nI np)), (8, .int (nI n)), (9, .long al), (12, .int ind), (13, .int cr), (14, .int (nI tu))]) hx hb dL_law_766 hl (k := 1) rfl (nI_1 k) (by decide) rfl (fun ls hl => ?_)
      refine lv_goto (tgt := 711) hx hb dL_law_769 (by decide) ?_
      refine ih (k + 1) _ _ (by omega) (by show cells + 1 + d ≤ C9; omega) (by show slots + 6 + 6 * d ≤ S9; omega) _ _ _ _ _ _ hI ?_ ?_ hP hD hS (lv_sub hl [0, 2, 3, 4, 5, 6, 7, 8, 9, 10, 11, 12, 13, 14] rfl)
      · intro c hc9 h9
        by_cases q : c = z9
        · rw [q]; exact ⟨k, by omega, ec⟩
        · rw [upd_ne q] at h9
          obtain ⟨j, hj, ej⟩ := hSS c hc9 h9
          exact ⟨j, by omega, ej⟩
      · exact hT
set_option maxHeartbeats 4000000 in
set_option maxRecDepth 100000 in
theorem tail_661 {p : Program} {l : Launch} {e : Env} {s : State} {m : MethodId} {below : List Frame} {meth : Method} {c : Code} (hnt : l.stackTraces = false) {G : va_G} {tys : List (ClassId × FieldType)} {tE mi : Nat} {cI cO : ClassId} (htI : tI tys cI) (htO : tO tys cO) {b L : Nat} {xs : Nat → Int32} (hL : L ≤ 260) (C0 : lw_At p s m meth c b L xs) {ad : Nat → Nat} (hK : va_K G vwCl tys s) (hE : env (fun q : Nat => s.heap.size ≤ q) tE mi s s.heap) {ind cr : Int32} {n np tu : Nat} {al : Int64} {ws : va_W} {H : Heap} {locs : List Loc} {cells slots : Nat} {Q : State → Prop} {ls : Array Slot} (hti : ti cI cO tE ad ind cr n np al ws) (hP : va_P G vwCl ws H) (hD : va_D (fun q : Nat => s.heap.size ≤ q) ws) (hS : va_S (fun q : Nat => s.heap.size ≤ q) s.heap H locs) (hl : lv_has ls 26 [(0, .ref b), (1, .ref (ad 0)), (2, .ref (ad 12)), (3, .ref (ad 13)), (4, .ref (ad 14)), (5, .ref (ad 15)), (6, .ref (ad 16)), (7, .int (nI np)), (8, .int (nI n)), (9, .long al), (12, .int ind), (13, .int cr), (14, .int (nI tu))]) (hc : cells + 40 ≤ 600130) (hs : slots + 200 ≤ 7301080) (kk : ∀ (w : va_W) (H1 : Heap) (locs1 : List Loc) (ls1 : Array Slot), ti cI cO tE ad ind cr n np al w → va_P G vwCl w H1 → va_D (fun q : Nat => s.heap.size ≤ q) w → va_S (fun q : Nat => s.heap.size ≤ q) s.heap H1 locs1 → lv_has ls1 26 [(0, .ref b), (1, .ref (ad 0)), (2, .ref (ad 12)), (3, .ref (ad 13)), (4, .ref (ad 14)), (5, .ref (ad 15)), (6, .ref (ad 16)), (7, .int (nI np)), (8, .int (nI n)), (9, .long al), (12, .int ind), (13, .int cr), (14, .int (nI (tu + 1)))] → W p l e room_1 s m #[Value.ref b] below meth c H1 locs1 (cells + 40) (slots + 200) Q (F0 m 98 ls1 [])) : W p l e room_1 s m #[Value.ref b] below meth c H locs (cells) (slots) Q (F0 m 661 ls []) := by
  have C1 := C0
  obtain ⟨hx, hb, hr, hml, hown, hts0, hX, hbl, hlocks, hgv⟩ := C1
  have hts : ∀ w ∈ wsL_law, w.before #[Value.ref b] s = true := fun w h => hts0 w (wsL_law_in w h)
  have hown : s.vm.findClass RL = some m.cls := hown
  have hA : ∀ q : Nat, s.heap.size ≤ q → (fun q : Nat => s.heap.size ≤ q) q := fun _ h => h
  have hbA : ¬ (fun q : Nat => s.heap.size ≤ q) b := Nat.not_le.mpr hbl
  obtain ⟨own, P, M, V, S, T, cel, ct, cf, co, ca, wd, num, cur, du, wi, dm, hI, hal, hT, hnp, hV⟩ := hti
  have hn20 : n ≤ 20 := hI.n20
  refine lv_aload_n hx hb dL_law_661 rfl (lv_at hl 1 rfl) ?_
  refine lv_iconst (v := 3) hx hb dL_law_662 (by decide) ?_
  refine va_calll (va_runV (As := [.int (3 : Int32)]) (rest := []) ⟨hx, hb, hml, hown, hts⟩ (op_ofCoil hnt G tys htI htO hI 3 (by decide)) (cwV 1 hts gL_law_X7_ofCoil rfl rfl rfl (by decide +kernel) ⟨Nat.le_of_ble_eq_true rfl, Nat.le_of_ble_eq_true rfl⟩) ⟨pcX_b, va_recv hK hP (ci := 7) (q0 := 0) rfl hI.1.1, pcX_u hP hK hD hS hA hE⟩ rfl rfl hl.1 rfl (lv_room (Nat.le_of_ble_eq_true rfl)) dL_law_663 ⟨by show cells + 1 ≤ 600130; omega, by show slots + 6 ≤ 7301080; omega⟩) hS (fun q _ h => h) (fun q h => h) (fun r u t H locs ht hvm hq hB hsz hk1 hS => ?_)
  rw [ht] at hB
  obtain ⟨hP, hD⟩ := hB
  obtain ⟨wm, hq⟩ := hq
  refine re_l (y := wi) (hq.trans cOf3) ?_
  refine lv_aload_n hx hb dL_law_666 rfl (lv_at hl 1 rfl) ?_
  refine lv_iconst (v := 4) hx hb dL_law_667 (by decide) ?_
  refine va_calll (va_runV (As := [.int (4 : Int32)]) (rest := [.long wi]) ⟨hx, hb, hml, hown, hts⟩ (op_ofCoil hnt G tys htI htO hI 4 (by decide)) (cwV 1 hts gL_law_X7_ofCoil rfl rfl rfl (by decide +kernel) ⟨Nat.le_of_ble_eq_true rfl, Nat.le_of_ble_eq_true rfl⟩) ⟨pcX_b, va_recv hK hP (ci := 7) (q0 := 0) rfl hI.1.1, pcX_u hP hK hD hS hA hE⟩ rfl rfl hl.1 rfl (lv_room (Nat.le_of_ble_eq_true rfl)) dL_law_668 ⟨by show cells + 1 + 1 ≤ 600130; omega, by show slots + 6 + 6 ≤ 7301080; omega⟩) hS (fun q _ h => h) (fun q h => h) (fun r u t H locs ht hvm hq hB hsz hk1 hS => ?_)
  rw [ht] at hB
  obtain ⟨hP, hD⟩ := hB
  obtain ⟨wm, hq⟩ := hq
  refine re_l (y := dm) (hq.trans cOf4) ?_
  refine lv_ladd hx hb dL_law_671 ?_
  refine lv_aload_n hx hb dL_law_672 rfl (lv_at hl 1 rfl) ?_
  refine lv_iconst (v := 5) hx hb dL_law_673 (by decide) ?_
  refine va_calll (va_runV (As := [.int (5 : Int32)]) (rest := [.long (wi + dm)]) ⟨hx, hb, hml, hown, hts⟩ (op_ofCoil hnt G tys htI htO hI 5 (by decide)) (cwV 1 hts gL_law_X7_ofCoil rfl rfl rfl (by decide +kernel) ⟨Nat.le_of_ble_eq_true rfl, Nat.le_of_ble_eq_true rfl⟩) ⟨pcX_b, va_recv hK hP (ci := 7) (q0 := 0) rfl hI.1.1, pcX_u hP hK hD hS hA hE⟩ rfl rfl hl.1 rfl (lv_room (Nat.le_of_ble_eq_true rfl)) dL_law_674 ⟨by show cells + 1 + 1 + 1 ≤ 600130; omega, by show slots + 6 + 6 + 6 ≤ 7301080; omega⟩) hS (fun q _ h => h) (fun q h => h) (fun r u t H locs ht hvm hq hB hsz hk1 hS => ?_)
  rw [ht] at hB
  obtain ⟨hP, hD⟩ := hB
  obtain ⟨wm, hq⟩ := hq
  refine re_l (y := cSto cur) (hq.trans cOf5) ?_
  refine lv_ladd hx hb dL_law_677 ?_
  refine lv_lload hx hb dL_law_678 (lv_at hl 9 rfl) ?_
  refine W.lcmp hx hb dL_law_680 ?_
  refine re_i (y := (0 : Int32)) (by rw [hal]; exact lg_cmp_self _) ?_
  refine lv_if_eq (tgt := 686) hx hb dL_law_681 (by decide) (fun c681 => ?_) (fun c681 => absurd (by decide) c681)
  refine lv_iconst (v := 0) hx hb dL_law_686 (by decide) ?_
  refine lv_istore (lv' := [(16, .int (0 : Int32)), (0, .ref b), (1, .ref (ad 0)), (2, .ref (ad 12)), (3, .ref (ad 13)), (4, .ref (ad 14)), (5, .ref (ad 15)), (6, .ref (ad 16)), (7, .int (nI np)), (8, .int (nI n)), (9, .long al), (12, .int ind), (13, .int cr), (14, .int (nI tu))]) hx hb dL_law_687 hl (by decide) rfl (fun ls hl => ?_)
  refine clr hnt htI htO hL C0 hK hE (fun S ws H locs ls hI hz hP hD hS hl => ?_) 48 0 (by omega) S ws _ _ ls hI (fun c h9 => absurd h9 (Nat.not_lt_zero c)) hP hD hS (lv_sub hl [0, 1, 2, 3, 4, 5, 6, 7, 8, 9, 10, 11, 12, 13] rfl)
  refine lv_iconst (v := 0) hx hb dL_law_708 (by decide) ?_
  refine lv_istore (lv' := [(16, .int (0 : Int32)), (0, .ref b), (1, .ref (ad 0)), (2, .ref (ad 12)), (3, .ref (ad 13)), (4, .ref (ad 14)), (5, .ref (ad 15)), (6, .ref (ad 16)), (7, .int (nI np)), (8, .int (nI n)), (9, .long al), (12, .int ind), (13, .int cr), (14, .int (nI tu))]) hx hb dL_law_709 hl (by decide) rfl (fun ls hl => ?_)
  refine whl hnt htI htO hL C0 hK hE (C9 := cells + 40) (S9 := slots + 200) (by omega) (by omega) (fun S T ws H locs ls hI hT hP hD hS hl => ?_) n 0 _ _ (by omega) (by show cells + 1 + 1 + 1 + n ≤ _; omega) (by show slots + 6 + 6 + 6 + 6 * n ≤ _; omega) S T ws _ _ ls hI (fun c h9 h8 => absurd (h8.symm.trans (hz c h9)) (by decide)) hT hP hD hS (lv_sub hl [0, 1, 2, 3, 4, 5, 6, 7, 8, 9, 10, 11, 12, 13] rfl)
  refine lv_iinc (v := nI (tu + 1)) (lv' := [(14, .int (nI (tu + 1))), (0, .ref b), (1, .ref (ad 0)), (2, .ref (ad 12)), (3, .ref (ad 13)), (4, .ref (ad 14)), (5, .ref (ad 15)), (6, .ref (ad 16)), (7, .int (nI np)), (8, .int (nI n)), (9, .long al), (12, .int ind), (13, .int cr)]) hx hb dL_law_772 hl (k := 12) rfl (nI_1 tu) (by decide) rfl (fun ls hl => ?_)
  refine lv_goto (tgt := 98) hx hb dL_law_775 (by decide) ?_
  exact kk ws H locs ls ⟨own, P, M, V, S, T, cel, ct, cf, co, ca, wd, num, cur, du, wi, dm, hI, hal, hT, hnp, hV⟩ hP hD hS (lv_sub hl [1, 2, 3, 4, 5, 6, 7, 8, 9, 10, 11, 12, 0] rfl)
