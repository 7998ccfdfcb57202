set_option maxHeartbeats 4000000 in
set_option maxRecDepth 100000 in
theorem law_loop {p : Program} {l : Launch} {e : Env} {s : State} {m : MethodId} {below : List Frame} {meth : Method} {c : Code} (hnt : l.stackTraces = false) {G : va_G} {tys : List (ClassId × FieldType)} {tE mi : Nat} {cI cO cJ cB : ClassId} (htI : tI tys cI) (htO : tO tys cO) (htJ : tys[2]? = some (cJ, .long)) (htB : tys[3]? = some (cB, .double)) {b L : Nat} {xs : Nat → Int32} (hL : L ≤ 2048) (C0 : lw_At p s m meth c b L xs) {v am oj od : Nat} (hK : va_K G vwCl tys s) (hE : env (fun q : Nat => s.heap.size ≤ q) tE mi s s.heap) : ∀ (n i : Nat) (x5 : Int32) (cells slots : Nat) (ws : va_W) (H : Heap) (locs : List Loc) (ls : Array Slot), i ≤ L → L + 1 ≤ i + n → x5 = nI i → cells + 2 * (L - i) ≤ 601024 → slots + 61 * (L - i) ≤ 7293034 → INV cI cO cJ cB tE v am oj od ws → va_P G vwCl ws H → va_D (fun q : Nat => s.heap.size ≤ q) ws → va_S (fun q : Nat => s.heap.size ≤ q) s.heap H locs → lv_has ls 10 [(0, .ref b), (1, .ref v), (2, .ref am), (3, .ref oj), (4, .ref od), (5, .int x5)] → W p l e room_1 s m #[Value.ref b] below meth c H locs (cells) (slots) (lw_Z below #[Value.ref b] s) (F0 m 28 ls []) := by
  have C1 := C0
  obtain ⟨hx, hb, hr, hml, hown, hts0, hX, hbl, hlocks, hgv⟩ := C1
  have hbA : ¬ (fun q : Nat => s.heap.size ≤ q) b := Nat.not_le.mpr hbl
  intro n
  induction n with
  | zero => exact fun i x5 cells slots ws H locs ls h1 h2 => absurd h2 (by omega)
  | succ n ih =>
    intro i x5 cells slots ws H locs ls hiL hin e5 hc hs hI hP hD hS hl
    refine lv_iload hx hb dL_law_28 (lv_at hl 5 rfl) ?_
    refine lv_aload_n hx hb dL_law_30 rfl (lv_at hl 0 rfl) ?_
    refine va_slen hx hb hX hbl hbA hS dL_law_31 ?_
    refine lv_iconst (v := 4) hx hb dL_law_32 (by decide) ?_
    refine lv_isub hx hb dL_law_33 ?_
    have e4 : (Int32.ofNat L - 4).toInt = (L : Int) - 4 := i_sub (x := nI L) (nI_toInt (by omega)) (show (4 : Int32).toInt = 4 from by decide) (by omega) (by omega)
    have ei : x5.toInt = (i : Int) := by rw [e5]; exact nI_toInt (by omega)
    refine lv_icmp_gt (tgt := 1809) hx hb dL_law_34 (by decide) (fun c1 => ?_) (fun c1 => ?_)
    · refine lv_iconst (v := 1) hx hb dL_law_1809 (by decide) ?_
      refine va_forget (fun q hq => hS.2.2 q hq) ?_
      refine W.widen (k := 601024) (n := 7293034) (by omega) (by omega) ?_
      refine W.base ?_
      exact lw_ret (Drawn.sameBut.refl s.drawn lw_cs) hx hb hr hlocks dL_law_1810
    · rw [Int32.lt_iff_toInt_lt, e4, ei] at c1
      have hi : i + 3 < L := by omega
      have g0 : vp_in x5 L := by rw [e5]; exact vp_in_nI (by omega) (by omega)
      have tail : ∀ (w : va_W) (H1 : Heap) (locs1 : List Loc) (ls1 : Array Slot), INV cI cO cJ cB tE v am oj od w → va_P G vwCl w H1 → va_D (fun q : Nat => s.heap.size ≤ q) w → va_S (fun q : Nat => s.heap.size ≤ q) s.heap H1 locs1 → lv_has ls1 10 [(0, .ref b), (1, .ref v), (2, .ref am), (3, .ref oj), (4, .ref od), (5, .int x5)] → W p l e room_1 s m #[Value.ref b] below meth c H1 locs1 (cells + 8) (slots + 242) (lw_Z below #[Value.ref b] s) (F0 m 1803 ls1 []) := by
        intro w H locs ls hI hP hD hS hl
        refine lv_iinc (v := nI (i + 4)) (lv' := [(5, .int (nI (i + 4))), (0, .ref b), (1, .ref v), (2, .ref am), (3, .ref oj), (4, .ref od)]) hx hb dL_law_1803 hl (k := 5) rfl (by rw [e5]; exact nI_add i 4) (by decide) rfl (fun ls hl => ?_)
        refine lv_goto (tgt := 28) hx hb dL_law_1806 (by decide) ?_
        exact ih (i + 4) _ _ _ w H locs ls (by omega) (by omega) rfl (by omega) (by omega) hI hP hD hS (lv_sub hl [1, 2, 3, 4, 5, 0] rfl)
      refine lv_aload_n hx hb dL_law_37 rfl (lv_at hl 0 rfl) ?_
      refine lv_iload hx hb dL_law_38 (lv_at hl 5 rfl) ?_
      refine va_sld hx hb hX hbl hbA hS g0 dL_law_40 ?_
      refine lv_bipush (v := 31) hx hb dL_law_41 (by decide) ?_
      refine lv_iand hx hb dL_law_43 ?_
      refine lv_topi (fun t et => ?_)
      have hc8 : cells + 8 ≤ 601024 := by omega
      have hs8 : slots + 242 ≤ 7293034 := by omega
      by_cases t0 : t = 0
      · refine lv_tableIn (tgt := 168) hx hb dL_law_44 (by rw [t0]; decide) (by rw [t0]; decide) (by rw [t0]; rfl) (by decide) ?_
        exact case_sample hnt htI htO htJ htB hL C0 hK hE hi e5 hI hP hD hS hl hc8 hs8 tail
      by_cases t1 : t = 1
      · refine lv_tableIn (tgt := 248) hx hb dL_law_44 (by rw [t1]; decide) (by rw [t1]; decide) (by rw [t1]; rfl) (by decide) ?_
        exact case_set hnt htI htO htJ htB hL C0 hK hE hi e5 hI hP hD hS hl hc8 hs8 tail
      by_cases t2 : t = 2
      · refine lv_tableIn (tgt := 328) hx hb dL_law_44 (by rw [t2]; decide) (by rw [t2]; decide) (by rw [t2]; rfl) (by decide) ?_
        exact case_deep hnt htI htO htJ htB hL C0 hK hE hi e5 hI hP hD hS hl hc8 hs8 tail
      by_cases t3 : t = 3
      · refine lv_tableIn (tgt := 405) hx hb dL_law_44 (by rw [t3]; decide) (by rw [t3]; decide) (by rw [t3]; rfl) (by decide) ?_
        exact case_pin hnt htI htO htJ htB hL C0 hK hE hi e5 hI hP hD hS hl hc8 hs8 tail
      by_cases t4 : t = 4
      · refine lv_tableIn (tgt := 473) hx hb dL_law_44 (by rw [t4]; decide) (by rw [t4]; decide) (by rw [t4]; rfl) (by decide) ?_
        exact case_drive hnt htI htO htJ htB hL C0 hK hE hi e5 hI hP hD hS hl hc8 hs8 tail
      by_cases t5 : t = 5
      · refine lv_tableIn (tgt := 521) hx hb dL_law_44 (by rw [t5]; decide) (by rw [t5]; decide) (by rw [t5]; rfl) (by decide) ?_
        exact case_enter hnt htI htO htJ htB hL C0 hK hE hi e5 hI hP hD hS hl hc8 hs8 tail
      by_cases t6 : t = 6
      · refine lv_tableIn (tgt := 577) hx hb dL_law_44 (by rw [t6]; decide) (by rw [t6]; decide) (by rw [t6]; rfl) (by decide) ?_
        exact case_step hnt htI htO htJ htB hL C0 hK hE hi e5 hI hP hD hS hl hc8 hs8 tail
      by_cases t7 : t = 7
      · refine lv_tableIn (tgt := 590) hx hb dL_law_44 (by rw [t7]; decide) (by rw [t7]; decide) (by rw [t7]; rfl) (by decide) ?_
        exact case_avalanche hnt htI htO htJ htB hL C0 hK hE hi e5 hI hP hD hS hl hc8 hs8 tail
      by_cases t8 : t = 8
      · refine lv_tableIn (tgt := 603) hx hb dL_law_44 (by rw [t8]; decide) (by rw [t8]; decide) (by rw [t8]; rfl) (by decide) ?_
        exact case_whirlAt hnt htI htO htJ htB hL C0 hK hE hi e5 hI hP hD hS hl hc8 hs8 tail
      by_cases t9 : t = 9
      · refine lv_tableIn (tgt := 659) hx hb dL_law_44 (by rw [t9]; decide) (by rw [t9]; decide) (by rw [t9]; rfl) (by decide) ?_
        exact case_energy hnt htI htO htJ htB hL C0 hK hE hi e5 hI hP hD hS hl hc8 hs8 tail
      by_cases t10 : t = 10
      · refine lv_tableIn (tgt := 715) hx hb dL_law_44 (by rw [t10]; decide) (by rw [t10]; decide) (by rw [t10]; rfl) (by decide) ?_
        exact case_ring hnt htI htO htJ htB hL C0 hK hE hi e5 hI hP hD hS hl hc8 hs8 tail
      by_cases t11 : t = 11
      · refine lv_tableIn (tgt := 783) hx hb dL_law_44 (by rw [t11]; decide) (by rw [t11]; decide) (by rw [t11]; rfl) (by decide) ?_
        exact case_flux hnt htI htO htJ htB hL C0 hK hE hi e5 hI hP hD hS hl hc8 hs8 tail
      by_cases t12 : t = 12
      · refine lv_tableIn (tgt := 851) hx hb dL_law_44 (by rw [t12]; decide) (by rw [t12]; decide) (by rw [t12]; rfl) (by decide) ?_
        exact case_warm hnt htI htO htJ htB hL C0 hK hE hi e5 hI hP hD hS hl hc8 hs8 tail
      by_cases t13 : t = 13
      · refine lv_tableIn (tgt := 907) hx hb dL_law_44 (by rw [t13]; decide) (by rw [t13]; decide) (by rw [t13]; rfl) (by decide) ?_
        exact case_ofRing hnt htI htO htJ htB hL C0 hK hE hi e5 hI hP hD hS hl hc8 hs8 tail
      by_cases t14 : t = 14
      · refine lv_tableIn (tgt := 975) hx hb dL_law_44 (by rw [t14]; decide) (by rw [t14]; decide) (by rw [t14]; rfl) (by decide) ?_
        exact case_current hnt htI htO htJ htB hL C0 hK hE hi e5 hI hP hD hS hl hc8 hs8 tail
      by_cases t15 : t = 15
      · refine lv_tableIn (tgt := 1031) hx hb dL_law_44 (by rw [t15]; decide) (by rw [t15]; decide) (by rw [t15]; rfl) (by decide) ?_
        exact case_heat hnt htI htO htJ htB hL C0 hK hE hi e5 hI hP hD hS hl hc8 hs8 tail
      by_cases t16 : t = 16
      · refine lv_tableIn (tgt := 1099) hx hb dL_law_44 (by rw [t16]; decide) (by rw [t16]; decide) (by rw [t16]; rfl) (by decide) ?_
        exact case_pass hnt htI htO htJ htB hL C0 hK hE hi e5 hI hP hD hS hl hc8 hs8 tail
      by_cases t17 : t = 17
      · refine lv_tableIn (tgt := 1155) hx hb dL_law_44 (by rw [t17]; decide) (by rw [t17]; decide) (by rw [t17]; rfl) (by decide) ?_
        exact case_warmth hnt htI htO htJ htB hL C0 hK hE hi e5 hI hP hD hS hl hc8 hs8 tail
      by_cases t18 : t = 18
      · refine lv_tableIn (tgt := 1211) hx hb dL_law_44 (by rw [t18]; decide) (by rw [t18]; decide) (by rw [t18]; rfl) (by decide) ?_
        exact case_ofCoil hnt htI htO htJ htB hL C0 hK hE hi e5 hI hP hD hS hl hc8 hs8 tail
      by_cases t19 : t = 19
      · refine lv_tableIn (tgt := 1266) hx hb dL_law_44 (by rw [t19]; decide) (by rw [t19]; decide) (by rw [t19]; rfl) (by decide) ?_
        exact case_share hnt htI htO htJ htB hL C0 hK hE hi e5 hI hP hD hS hl hc8 hs8 tail
      by_cases t20 : t = 20
      · refine lv_tableIn (tgt := 1307) hx hb dL_law_44 (by rw [t20]; decide) (by rw [t20]; decide) (by rw [t20]; rfl) (by decide) ?_
        exact case_margins hnt htI htO htJ htB hL C0 hK hE hi e5 hI hP hD hS hl hc8 hs8 tail
      by_cases t21 : t = 21
      · refine lv_tableIn (tgt := 1355) hx hb dL_law_44 (by rw [t21]; decide) (by rw [t21]; decide) (by rw [t21]; rfl) (by decide) ?_
        exact case_pulse hnt htI htO htJ htB hL C0 hK hE hi e5 hI hP hD hS hl hc8 hs8 tail
      by_cases t22 : t = 22
      · refine lv_tableIn (tgt := 1423) hx hb dL_law_44 (by rw [t22]; decide) (by rw [t22]; decide) (by rw [t22]; rfl) (by decide) ?_
        exact case_bit hnt htI htO htJ htB hL C0 hK hE hi e5 hI hP hD hS hl hc8 hs8 tail
      by_cases t23 : t = 23
      · refine lv_tableIn (tgt := 1479) hx hb dL_law_44 (by rw [t23]; decide) (by rw [t23]; decide) (by rw [t23]; rfl) (by decide) ?_
        exact case_point hnt htI htO htJ htB hL C0 hK hE hi e5 hI hP hD hS hl hc8 hs8 tail
      by_cases t24 : t = 24
      · refine lv_tableIn (tgt := 1559) hx hb dL_law_44 (by rw [t24]; decide) (by rw [t24]; decide) (by rw [t24]; rfl) (by decide) ?_
        exact case_claim hnt htI htO htJ htB hL C0 hK hE hi e5 hI hP hD hS hl hc8 hs8 tail
      by_cases t25 : t = 25
      · refine lv_tableIn (tgt := 1639) hx hb dL_law_44 (by rw [t25]; decide) (by rw [t25]; decide) (by rw [t25]; rfl) (by decide) ?_
        exact case_repeats hnt htI htO htJ htB hL C0 hK hE hi e5 hI hP hD hS hl hc8 hs8 tail
      by_cases t26 : t = 26
      · refine lv_tableIn (tgt := 1735) hx hb dL_law_44 (by rw [t26]; decide) (by rw [t26]; decide) (by rw [t26]; rfl) (by decide) ?_
        exact case_judge hnt htI htO htJ htB hL C0 hK hE hi e5 hI hP hD hS hl hc8 hs8 tail
      have u0 : ¬ t.toInt = 0 := fun q => t0 (Int32.toInt_inj.mp (q.trans (by decide : (0 : Int) = (0 : Int32).toInt)))
      have u1 : ¬ t.toInt = 1 := fun q => t1 (Int32.toInt_inj.mp (q.trans (by decide : (1 : Int) = (1 : Int32).toInt)))
      have u2 : ¬ t.toInt = 2 := fun q => t2 (Int32.toInt_inj.mp (q.trans (by decide : (2 : Int) = (2 : Int32).toInt)))
      have u3 : ¬ t.toInt = 3 := fun q => t3 (Int32.toInt_inj.mp (q.trans (by decide : (3 : Int) = (3 : Int32).toInt)))
      have u4 : ¬ t.toInt = 4 := fun q => t4 (Int32.toInt_inj.mp (q.trans (by decide : (4 : Int) = (4 : Int32).toInt)))
      have u5 : ¬ t.toInt = 5 := fun q => t5 (Int32.toInt_inj.mp (q.trans (by decide : (5 : Int) = (5 : Int32).toInt)))
      have u6 : ¬ t.toInt = 6 := fun q => t6 (Int32.toInt_inj.mp (q.trans (by decide : (6 : Int) = (6 : Int32).toInt)))
      have u7 : ¬ t.toInt = 7 := fun q => t7 (Int32.toInt_inj.mp (q.trans (by decide : (7 : Int) = (7 : Int32).toInt)))
      have u8 : ¬ t.toInt = 8 := fun q => t8 (Int32.toInt_inj.mp (q.trans (by decide : (8 : Int) = (8 : Int32).toInt)))
      have u9 : ¬ t.toInt = 9 := fun q => t9 (Int32.toInt_inj.mp (q.trans (by decide : (9 : Int) = (9 : Int32).toInt)))
      have u10 : ¬ t.toInt = 10 := fun q => t10 (Int32.toInt_inj.mp (q.trans (by decide : (10 : Int) = (10 : Int32).toInt)))
      have u11 : ¬ t.toInt = 11 := fun q => t11 (Int32.toInt_inj.mp (q.trans (by decide : (11 : Int) = (11 : Int32).toInt)))
      have u12 : ¬ t.toInt = 12 := fun q => t12 (Int32.toInt_inj.mp (q.trans (by decide : (12 : Int) = (12 : Int32).toInt)))
      have u13 : ¬ t.toInt = 13 := fun q => t13 (Int32.toInt_inj.mp (q.trans (by decide : (13 : Int) = (13 : Int32).toInt)))
      have u14 : ¬ t.toInt = 14 := fun q => t14 (Int32.toInt_inj.mp (q.trans (by decide : (14 : Int) = (14 : Int32).toInt)))
      have u15 : ¬ t.toInt = 15 := fun q => t15 (Int32.toInt_inj.mp (q.trans (by decide : (15 : Int) = (15 : Int32).toInt)))
      have u16 : ¬ t.toInt = 16 := fun q => t16 (Int32.toInt_inj.mp (q.trans (by decide : (16 : Int) = (16 : Int32).toInt)))
      have u17 : ¬ t.toInt = 17 := fun q => t17 (Int32.toInt_inj.mp (q.trans (by decide : (17 : Int) = (17 : Int32).toInt)))
      have u18 : ¬ t.toInt = 18 := fun q => t18 (Int32.toInt_inj.mp (q.trans (by decide : (18 : Int) = (18 : Int32).toInt)))
      have u19 : ¬ t.toInt = 19 := fun q => t19 (Int32.toInt_inj.mp (q.trans (by decide : (19 : Int) = (19 : Int32).toInt)))
      have u20 : ¬ t.toInt = 20 := fun q => t20 (Int32.toInt_inj.mp (q.trans (by decide : (20 : Int) = (20 : Int32).toInt)))
      have u21 : ¬ t.toInt = 21 := fun q => t21 (Int32.toInt_inj.mp (q.trans (by decide : (21 : Int) = (21 : Int32).toInt)))
      have u22 : ¬ t.toInt = 22 := fun q => t22 (Int32.toInt_inj.mp (q.trans (by decide : (22 : Int) = (22 : Int32).toInt)))
      have u23 : ¬ t.toInt = 23 := fun q => t23 (Int32.toInt_inj.mp (q.trans (by decide : (23 : Int) = (23 : Int32).toInt)))
      have u24 : ¬ t.toInt = 24 := fun q => t24 (Int32.toInt_inj.mp (q.trans (by decide : (24 : Int) = (24 : Int32).toInt)))
      have u25 : ¬ t.toInt = 25 := fun q => t25 (Int32.toInt_inj.mp (q.trans (by decide : (25 : Int) = (25 : Int32).toInt)))
      have u26 : ¬ t.toInt = 26 := fun q => t26 (Int32.toInt_inj.mp (q.trans (by decide : (26 : Int) = (26 : Int32).toInt)))
      refine lv_tableOut (tgt := 1803) hx hb dL_law_44 (by omega) (by decide) ?_
      refine W.widen (k := cells + 8) (n := slots + 242) (by omega) (by omega) ?_
      exact tail ws H locs ls hI hP hD hS hl
