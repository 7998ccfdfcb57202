theorem jm_0 (a : Nat) (h : a < 2 ^ 31) : jmax 0 (nI a) = nI a := by
  unfold jmax
  by_cases q : a = 0
  · subst q; rw [if_neg (by decide)]; rfl
  · exact if_pos (nI_lt (a := 0) (by omega) h)
theorem nI_pos0 {i : Nat} (h : ¬ nI i ≤ 0) : 0 < i := Nat.pos_of_ne_zero (fun e => h (by rw [e]; decide))
theorem nI_m1' {i : Nat} (h : 0 < i) : nI i - 1 = nI (i - 1) := pk_sub (a := i) (b := 1) h
def cNorm (cur x : Int32) : Int32 := if x < 90 * (1000 - cur) / 1000 then 0 else 1
def cCnt (cur : Int32) (wm : Nat → Int32) (a : Nat) : Nat → Int32
  | 0 => 0
  | k + 1 => if cNorm cur (wm (a + k)) = 0 then cCnt cur wm a k else cCnt cur wm a k + 1
def cDoubt (cur : Int32) (wm : Nat → Int32) : Int32 := cCnt cur wm 0 6 - cCnt cur wm 6 6
def cSto (cur : Int32) : Int64 := 50 * cur.toInt64 * cur.toInt64
def cCur (cur : Int32) : Int32 := cur - (cur + 15) / 16
def cLost (cur : Int32) : Int64 := cSto cur - cSto (cCur cur)
def cWir (cur : Int32) (wm : Nat → Int32) : Int64 := cLost cur * (cCnt (cCur cur) wm 0 12).toInt64 / (cCnt (cCur cur) wm 0 12 + 20).toInt64
def cV1 (x : Int32) : Int32 := x - (x - 4) / 16
def cV2 (cur x : Int32) : Int32 := if cNorm cur x = 0 then cV1 x else cV1 x + cur * cur / 2000
def cV3 (cur : Int32) (wm : Nat → Int32) (i : Nat) : Int32 := if nI i ≤ 0 then cV2 cur (wm i) else cV2 cur (wm i) + (wm (i - 1) - wm i) / 8
def cV4 (cur : Int32) (wm : Nat → Int32) (i : Nat) : Int32 := if 12 ≤ nI i + 1 then cV3 cur wm i else cV3 cur wm i + (wm (i + 1) - wm i) / 8
def cSpr (cur : Int32) (wm sp : Nat → Int32) (n : Nat) : Nat → Int32 := fun k => if k < n then jmin 1000 (cV4 cur wm k) else sp k
theorem cSpr_0 (cur : Int32) (wm sp : Nat → Int32) : cSpr cur wm sp 0 = sp := by funext k; simp [cSpr]
theorem cSpr_s (cur : Int32) (wm sp : Nat → Int32) (n : Nat) : upd (cSpr cur wm sp n) n (jmin 1000 (cV4 cur wm n)) = cSpr cur wm sp (n + 1) := by
  funext k
  unfold upd cSpr
  by_cases h : k = n
  · subst h
    rw [if_pos rfl, if_pos (Nat.lt_succ_self k)]
  · rw [if_neg h]
    by_cases h2 : k < n
    · rw [if_pos h2, if_pos (by omega)]
    · rw [if_neg h2, if_neg (by omega)]
def cIr (cur ir : Int32) (wm : Nat → Int32) : Int32 := if jabs (cDoubt cur wm) < 2 then 0 else ir + 1
theorem cCnt_nat (cur : Int32) (wm : Nat → Int32) (a : Nat) : ∀ k : Nat, ∃ n : Nat, n ≤ k ∧ cCnt cur wm a k = nI n
  | 0 => ⟨0, Nat.le_refl 0, nI_0.symm⟩
  | k + 1 => by
    obtain ⟨n, h1, h2⟩ := cCnt_nat cur wm a k
    unfold cCnt
    split
    · exact ⟨n, by omega, h2⟩
    · exact ⟨n + 1, by omega, by rw [h2]; exact nI_1 n⟩
theorem cCnt_ne (cur : Int32) (wm : Nat → Int32) : ¬ (cCnt cur wm 0 12 + 20).toInt64 = 0 := by
  obtain ⟨n, h1, h2⟩ := cCnt_nat cur wm 0 12
  rw [h2]
  intro h
  have h3 : ∀ k : Nat, k < 13 → ¬ (nI k + 20).toInt64 = 0 := by decide +kernel
  exact h3 n (by omega) h
set_option maxHeartbeats 4000000 in
set_option maxRecDepth 100000 in
theorem metX1_isNormal (l : Launch) (G : va_G) (tys : List (ClassId × FieldType)) (cI : ClassId) (htI : tI tys cI) (ws : va_W) {po pw pz ao aw az : Nat} {cur du ir : Int32} {wi dm : Int64} {wm sp : Nat → Int32} (ho : ws[po]? = some (ao, .inr (2, [.ref aw, .ref az, .int cur, .int du, .int ir, .long wi, .long dm]))) (hw : ws[pw]? = some (aw, .inl (cI, 12, .inl wm))) (hz : ws[pz]? = some (az, .inl (cI, 12, .inl sp))) (x : Int32) : Met l yX1_isNormal wsX1_isNormal ({ frames := 0, cells := 0, slots := 0, locals := 0 }) (pcR G tys ws [.ref ao, .int x]) (vp_Si (fun r => r = cNorm cur x)) 0 0 (fun _ => False) := by
  refine ofR (cc := cX1_isNormal) (maxL := 2) (ret := some .boolean) (by decide) rfl (Nat.le_of_ble_eq_true rfl) ?_
  intro p e s m below meth c ls hx hb hr hlocks hml hown hts hl hP hK
  have hown : s.vm.findClass RX1 = some m.cls := hown
  have hiX1 : ∀ w ∈ u_ws RX1 TX1 7, w ∈ wsX1_isNormal := fun _ h => List.mem_cons_of_mem _ (List.mem_append_right _ h)
  have hl : lv_has ls 2 [(0, .ref ao), (1, .int x)] := hl
  refine lv_iload_n hx hb dX1_isNormal_0 rfl (lv_at hl 1 rfl) ?_
  refine lv_bipush (v := 90) hx hb dX1_isNormal_1 (by decide) ?_
  refine lv_sipush (v := 1000) hx hb dX1_isNormal_3 (by decide) ?_
  refine lv_aload_n hx hb dX1_isNormal_6 rfl (lv_at hl 0 rfl) ?_
  refine va_get (D := G) (ci := 2) (v := .int cur) (C := RX1) (T := TX1) (N := 7) hx hb hts hiX1 hown hK hP po ho rfl 2 (by decide) (hts (.fieldLink RX1 33 "Vortexpin$Coil" "current" "I") (List.mem_of_getElem? (i := 1) rfl)) (fun _ h9 => h9) rfl dX1_isNormal_7 ?_
  refine lv_isub hx hb dX1_isNormal_10 ?_
  refine lv_imul hx hb dX1_isNormal_11 ?_
  refine lv_sipush (v := 1000) hx hb dX1_isNormal_12 (by decide) ?_
  refine lv_idiv hx hb dX1_isNormal_15 (by decide) ?_
  refine lv_icmp_lt (tgt := 23) hx hb dX1_isNormal_16 (by decide) (fun c16 => ?_) (fun c16 => ?_)
  · refine lv_iconst (v := 0) hx hb dX1_isNormal_23 (by decide) ?_
    exact W.zret (v := (0 : Int32)) hx hb hr (rfl) (fun t ht hW => ⟨(0 : Int32), rfl, (by simp only [cNorm, c16, ↓reduceIte, not_true_eq_false, not_false_eq_true]), ht⟩) (fun _ h => absurd h List.not_mem_nil) dX1_isNormal_24
  · refine lv_iconst (v := 1) hx hb dX1_isNormal_19 (by decide) ?_
    refine lv_goto (tgt := 24) hx hb dX1_isNormal_20 (by decide) ?_
    exact W.zret (v := (1 : Int32)) hx hb hr (rfl) (fun t ht hW => ⟨(1 : Int32), rfl, (by simp only [cNorm, c16, ↓reduceIte, not_true_eq_false, not_false_eq_true]), ht⟩) (fun _ h => absurd h List.not_mem_nil) dX1_isNormal_24
set_option maxHeartbeats 4000000 in
set_option maxRecDepth 100000 in
theorem metX1_stored (l : Launch) (G : va_G) (tys : List (ClassId × FieldType)) (cI : ClassId) (htI : tI tys cI) (ws : va_W) {po pw pz ao aw az : Nat} {cur du ir : Int32} {wi dm : Int64} {wm sp : Nat → Int32} (ho : ws[po]? = some (ao, .inr (2, [.ref aw, .ref az, .int cur, .int du, .int ir, .long wi, .long dm]))) (hw : ws[pw]? = some (aw, .inl (cI, 12, .inl wm))) (hz : ws[pz]? = some (az, .inl (cI, 12, .inl sp))) : Met l yX1_stored wsX1_stored ({ frames := 0, cells := 0, slots := 0, locals := 0 }) (pcR G tys ws [.ref ao]) (vp_Sl (fun r => r = cSto cur)) 0 0 (fun _ => False) := by
  refine ofR (cc := cX1_stored) (maxL := 1) (ret := some .long) (by decide) rfl (Nat.le_of_ble_eq_true rfl) ?_
  intro p e s m below meth c ls hx hb hr hlocks hml hown hts hl hP hK
  have hown : s.vm.findClass RX1 = some m.cls := hown
  have hiX1 : ∀ w ∈ u_ws RX1 TX1 7, w ∈ wsX1_stored := fun _ h => List.mem_cons_of_mem _ (List.mem_append_right _ h)
  have hl : lv_has ls 1 [(0, .ref ao)] := hl
  refine lv_ldc2 (v := 50) hx hb hown (hts (.constantLong RX1 71 (50)) (List.mem_of_getElem? (i := 1) rfl)) dX1_stored_0 ?_
  refine lv_aload_n hx hb dX1_stored_3 rfl (lv_at hl 0 rfl) ?_
  refine va_get (D := G) (ci := 2) (v := .int cur) (C := RX1) (T := TX1) (N := 7) hx hb hts hiX1 hown hK hP po ho rfl 2 (by decide) (hts (.fieldLink RX1 33 "Vortexpin$Coil" "current" "I") (List.mem_of_getElem? (i := 2) rfl)) (fun _ h9 => h9) rfl dX1_stored_4 ?_
  refine lv_i2l hx hb dX1_stored_7 rfl ?_
  refine lv_lmul hx hb dX1_stored_8 ?_
  refine lv_aload_n hx hb dX1_stored_9 rfl (lv_at hl 0 rfl) ?_
  refine va_get (D := G) (ci := 2) (v := .int cur) (C := RX1) (T := TX1) (N := 7) hx hb hts hiX1 hown hK hP po ho rfl 2 (by decide) (hts (.fieldLink RX1 33 "Vortexpin$Coil" "current" "I") (List.mem_of_getElem? (i := 2) rfl)) (fun _ h9 => h9) rfl dX1_stored_10 ?_
  refine lv_i2l hx hb dX1_stored_13 rfl ?_
  refine lv_lmul hx hb dX1_stored_14 ?_
  exact W.lret (v := (50 * cur.toInt64) * cur.toInt64) hx hb hr (fun t ht hW => ⟨(50 * cur.toInt64) * cur.toInt64, rfl, (rfl), ht⟩) (fun _ h => absurd h List.not_mem_nil) dX1_stored_15
set_option maxHeartbeats 4000000 in
set_option maxRecDepth 100000 in
theorem metX1_normalParts (l : Launch) (G : va_G) (tys : List (ClassId × FieldType)) (cI : ClassId) (htI : tI tys cI) (ws : va_W) {po pw pz ao aw az : Nat} {cur du ir : Int32} {wi dm : Int64} {wm sp : Nat → Int32} (ho : ws[po]? = some (ao, .inr (2, [.ref aw, .ref az, .int cur, .int du, .int ir, .long wi, .long dm]))) (hw : ws[pw]? = some (aw, .inl (cI, 12, .inl wm))) (hz : ws[pz]? = some (az, .inl (cI, 12, .inl sp))) (a z : Nat) (haz : a ≤ z) (hz12 : z ≤ 12) : Met l yX1_normalParts wsX1_normalParts ({ frames := 1, cells := 0, slots := 0, locals := 21 }) (pcR G tys ws [.ref ao, .int (nI a), .int (nI z)]) (vp_Si (fun r => r = cCnt cur wm a (z - a))) 0 0 (fun _ => False) := by
  refine ofR (cc := cX1_normalParts) (maxL := 5) (ret := some .int) (by decide) rfl (Nat.le_of_ble_eq_true rfl) ?_
  intro p e s m below meth c ls hx hb hr hlocks hml hown hts hl hP hK
  have hown : s.vm.findClass RX1 = some m.cls := hown
  have hiX1 : ∀ w ∈ u_ws RX1 TX1 7, w ∈ wsX1_normalParts := fun _ h => List.mem_cons_of_mem _ (List.mem_append_right _ h)
  have hl : lv_has ls 5 [(0, .ref ao), (1, .int (nI a)), (2, .int (nI z))] := hl
  refine lv_iconst (v := 0) hx hb dX1_normalParts_0 (by decide) ?_
  refine lv_istore_n (lv' := [(3, .int (0 : Int32)), (0, .ref ao), (1, .int (nI a)), (2, .int (nI z))]) hx hb dX1_normalParts_1 rfl hl (by decide) rfl (fun ls hl => ?_)
  refine lv_iconst (v := 0) hx hb dX1_normalParts_2 (by decide) ?_
  refine lv_iload_n hx hb dX1_normalParts_3 rfl (lv_at hl 2 rfl) ?_
  refine va_mmax hx hb (hml.trans hl.1.symm) hown (hts (.methodLink RX1 68 Lib.Math.max.name) (List.mem_of_getElem? (i := 1) rfl)) (hts (.static Lib.Math.max.name) (List.mem_of_getElem? (i := 2) rfl)) (hts (.initialized "java/lang/Math") (List.mem_of_getElem? (i := 3) rfl)) (hts (.code Lib.Math.max.name Lib.Math.max.code 2 (some .int)) (List.mem_of_getElem? (i := 4) rfl)) (Nat.le_of_ble_eq_true rfl) (Nat.le_of_ble_eq_true rfl) (Nat.le_of_ble_eq_true rfl) (Nat.le_of_ble_eq_true rfl) dX1_normalParts_4 ?_
  refine fold_max ?_
  refine re_i (y := nI a) (jm_0 a (by omega)) ?_
  refine lv_istore (lv' := [(4, .int (nI a)), (3, .int (0 : Int32)), (0, .ref ao), (1, .int (nI a)), (2, .int (nI z))]) hx hb dX1_normalParts_7 hl (by decide) rfl (fun ls hl => ?_)
  refine loopR (z - a) 9 5 (fun i => [(0, .ref ao), (2, .int (nI z)), (3, .int (cCnt cur wm a i)), (4, .int (nI (a + i)))]) (fun i => True) (fun i hNi hKi ihi ls hl => ?_) (i0 := 0) (by omega) (trivial) (lv_sub hl [2, 4, 1, 0] rfl)
  have hl : lv_has ls 5 [(0, .ref ao), (2, .int (nI z)), (3, .int (cCnt cur wm a i)), (4, .int (nI (a + i)))] := hl
  refine lv_iload hx hb dX1_normalParts_9 (lv_at hl 3 rfl) ?_
  refine lv_iload_n hx hb dX1_normalParts_11 rfl (lv_at hl 1 rfl) ?_
  refine lv_icmp_ge (tgt := 48) hx hb dX1_normalParts_12 (by decide) (fun c12 => ?_) (fun c12 => ?_)
  · have heqi : i = (z - a) := by have := (nI_leI (a := z) (b := a + i) (by omega) (by omega)).mp c12; omega
    refine lv_iload_n hx hb dX1_normalParts_48 rfl (lv_at hl 2 rfl) ?_
    exact W.iret (v := cCnt cur wm a i) hx hb hr (fun t ht hW => ⟨cCnt cur wm a i, rfl, (by rw [heqi]), ht⟩) (fun _ h => absurd h List.not_mem_nil) dX1_normalParts_49
  · have hlti : i < (z - a) := by have := mt (nI_leI (a := z) (b := a + i) (by omega) (by omega)).mpr c12; omega
    refine lv_iload hx hb dX1_normalParts_15 (lv_at hl 3 rfl) ?_
    refine lv_aload_n hx hb dX1_normalParts_17 rfl (lv_at hl 0 rfl) ?_
    refine va_get (D := G) (ci := 2) (v := .ref aw) (C := RX1) (T := TX1) (N := 7) hx hb hts hiX1 hown hK hP po ho rfl 0 (by decide) (hts (.fieldLink RX1 9 "Vortexpin$Coil" "warmths" "[I") (List.mem_of_getElem? (i := 5) rfl)) (fun _ h9 => h9) rfl dX1_normalParts_18 ?_
    refine va_alen hx hb hK hP pw 0 hw htI (v := (12 : Int32)) rfl dX1_normalParts_21 ?_
    refine lv_icmp_ge (tgt := 48) hx hb dX1_normalParts_22 (by decide) (fun c22 => absurd c22 (by exact nI_ge (show a + i < 12 by omega) (by decide))) (fun c22 => ?_)
    refine lv_aload_n hx hb dX1_normalParts_25 rfl (lv_at hl 0 rfl) ?_
    refine lv_aload_n hx hb dX1_normalParts_26 rfl (lv_at hl 0 rfl) ?_
    refine va_get (D := G) (ci := 2) (v := .ref aw) (C := RX1) (T := TX1) (N := 7) hx hb hts hiX1 hown hK hP po ho rfl 0 (by decide) (hts (.fieldLink RX1 9 "Vortexpin$Coil" "warmths" "[I") (List.mem_of_getElem? (i := 5) rfl)) (fun _ h9 => h9) rfl dX1_normalParts_27 ?_
    refine lv_iload hx hb dX1_normalParts_30 (lv_at hl 3 rfl) ?_
    refine va_iald hx hb hK hP pw 0 hw htI (by first | exact vp_in_nI (by omega) (by omega) | assumption) dX1_normalParts_32 ?_
    refine rd_i (j := a + i) (nI_clamp (by omega)) ?_
    refine vp_callSi (va_Run.run (va_runV (As := [.int (wm (a + i))]) (rest := []) ⟨hx, hb, hml, hown, hts⟩ (metX1_isNormal l G tys cI htI _ ho hw hz (wm (a + i))) (cwV 1 hts gX1_normalParts_X1_isNormal rfl rfl rfl (by decide +kernel) ⟨Nat.le_of_ble_eq_true rfl, Nat.le_of_ble_eq_true rfl⟩) ⟨pcR_b, va_recv hK hP (ci := 2) (q0 := po) rfl ho, pcR_u hP hK⟩ rfl rfl hl.1 rfl (lv_room (Nat.le_of_ble_eq_true rfl)) dX1_normalParts_33 ⟨Nat.le_of_ble_eq_true rfl, Nat.le_of_ble_eq_true rfl⟩)) (fun r33 h33 => ?_)
    refine lv_if_eq (tgt := 42) hx hb dX1_normalParts_36 (by decide) (fun c36 => ?_) (fun c36 => ?_)
    · refine lv_iinc (v := nI (a + i + 1)) (lv' := [(4, .int (nI (a + i + 1))), (0, .ref ao), (2, .int (nI z)), (3, .int (cCnt cur wm a i))]) hx hb dX1_normalParts_42 hl (k := 3) rfl (nI_1 (a + i)) (by decide) rfl (fun ls hl => ?_)
      refine lv_goto (tgt := 9) hx hb dX1_normalParts_45 (by decide) ?_
      have ea3 : cCnt cur wm a i = cCnt cur wm a (i + 1) := by subst h33; simp only [cCnt, c12, c22, (eq_true c36), ↓reduceIte, not_true_eq_false, not_false_eq_true]
      rw [ea3] at hl
      have ea4 : nI (a + i + 1) = nI (a + (i + 1)) := by rw [Nat.add_assoc]
      rw [ea4] at hl
      exact ihi ls hlti (trivial) (lv_sub hl [1, 2, 3, 0] rfl)
    · refine lv_iinc (v := (cCnt cur wm a i) + 1) (lv' := [(3, .int ((cCnt cur wm a i) + 1)), (0, .ref ao), (2, .int (nI z)), (4, .int (nI (a + i)))]) hx hb dX1_normalParts_39 hl (k := 2) rfl (rfl) (by decide) rfl (fun ls hl => ?_)
      refine lv_iinc (v := nI (a + i + 1)) (lv' := [(4, .int (nI (a + i + 1))), (3, .int ((cCnt cur wm a i) + 1)), (0, .ref ao), (2, .int (nI z))]) hx hb dX1_normalParts_42 hl (k := 3) rfl (nI_1 (a + i)) (by decide) rfl (fun ls hl => ?_)
      refine lv_goto (tgt := 9) hx hb dX1_normalParts_45 (by decide) ?_
      have ea3 : (cCnt cur wm a i) + 1 = cCnt cur wm a (i + 1) := by subst h33; simp only [cCnt, c12, c22, c36, ↓reduceIte, not_true_eq_false, not_false_eq_true]
      rw [ea3] at hl
      have ea4 : nI (a + i + 1) = nI (a + (i + 1)) := by rw [Nat.add_assoc]
      rw [ea4] at hl
      exact ihi ls hlti (trivial) (lv_sub hl [2, 3, 1, 0] rfl)
set_option maxHeartbeats 4000000 in
set_option maxRecDepth 100000 in
theorem metX1_doubt (l : Launch) (G : va_G) (tys : List (ClassId × FieldType)) (cI : ClassId) (htI : tI tys cI) (ws : va_W) {po pw pz ao aw az : Nat} {cur du ir : Int32} {wi dm : Int64} {wm sp : Nat → Int32} (ho : ws[po]? = some (ao, .inr (2, [.ref aw, .ref az, .int cur, .int du, .int ir, .long wi, .long dm]))) (hw : ws[pw]? = some (aw, .inl (cI, 12, .inl wm))) (hz : ws[pz]? = some (az, .inl (cI, 12, .inl sp))) : Met l yX1_doubt wsX1_doubt ({ frames := 2, cells := 0, slots := 0, locals := 45 }) (pcR G tys ws [.ref ao]) (vp_Si (fun r => r = cDoubt cur wm)) 0 0 (fun _ => False) := by
  refine ofR (cc := cX1_doubt) (maxL := 1) (ret := some .int) (by decide) rfl (Nat.le_of_ble_eq_true rfl) ?_
  intro p e s m below meth c ls hx hb hr hlocks hml hown hts hl hP hK
  have hown : s.vm.findClass RX1 = some m.cls := hown
  have hl : lv_has ls 1 [(0, .ref ao)] := hl
  refine lv_aload_n hx hb dX1_doubt_0 rfl (lv_at hl 0 rfl) ?_
  refine lv_iconst (v := 0) hx hb dX1_doubt_1 (by decide) ?_
  refine lv_bipush (v := 6) hx hb dX1_doubt_2 (by decide) ?_
  refine vp_callSi (va_Run.run (va_runV (As := [.int (0 : Int32), .int (6 : Int32)]) (rest := []) ⟨hx, hb, hml, hown, hts⟩ (metX1_normalParts l G tys cI htI _ ho hw hz 0 6 (by decide) (by decide)) (cwV 2 hts gX1_doubt_X1_normalParts rfl rfl rfl (by decide +kernel) ⟨Nat.le_of_ble_eq_true rfl, Nat.le_of_ble_eq_true rfl⟩) ⟨pcR_b, va_recv hK hP (ci := 2) (q0 := po) rfl ho, pcR_u hP hK⟩ rfl rfl hl.1 rfl (lv_room (Nat.le_of_ble_eq_true rfl)) dX1_doubt_4 ⟨Nat.le_of_ble_eq_true rfl, Nat.le_of_ble_eq_true rfl⟩)) (fun r4 h4 => ?_)
  refine lv_aload_n hx hb dX1_doubt_7 rfl (lv_at hl 0 rfl) ?_
  refine lv_bipush (v := 6) hx hb dX1_doubt_8 (by decide) ?_
  refine lv_bipush (v := 12) hx hb dX1_doubt_10 (by decide) ?_
  refine vp_callSi (va_Run.run (va_runV (As := [.int (6 : Int32), .int (12 : Int32)]) (rest := [.int r4]) ⟨hx, hb, hml, hown, hts⟩ (metX1_normalParts l G tys cI htI _ ho hw hz 6 12 (by decide) (by decide)) (cwV 2 hts gX1_doubt_X1_normalParts rfl rfl rfl (by decide +kernel) ⟨Nat.le_of_ble_eq_true rfl, Nat.le_of_ble_eq_true rfl⟩) ⟨pcR_b, va_recv hK hP (ci := 2) (q0 := po) rfl ho, pcR_u hP hK⟩ rfl rfl hl.1 rfl (lv_room (Nat.le_of_ble_eq_true rfl)) dX1_doubt_12 ⟨Nat.le_of_ble_eq_true rfl, Nat.le_of_ble_eq_true rfl⟩)) (fun r12 h12 => ?_)
  refine lv_isub hx hb dX1_doubt_15 ?_
  exact W.iret (v := r4 - r12) hx hb hr (fun t ht hW => ⟨r4 - r12, rfl, (by rw [h4, h12]; rfl), ht⟩) (fun _ h => absurd h List.not_mem_nil) dX1_doubt_16
set_option maxHeartbeats 4000000 in
set_option maxRecDepth 100000 in
theorem metX1_loseCurrent (l : Launch) (G : va_G) (tys : List (ClassId × FieldType)) (cI : ClassId) (htI : tI tys cI) {A : Nat → Prop} (ws : va_W) {po pw pz ao aw az : Nat} {cur du ir : Int32} {wi dm : Int64} {wm sp : Nat → Int32} (ho : ws[po]? = some (ao, .inr (2, [.ref aw, .ref az, .int cur, .int du, .int ir, .long wi, .long dm]))) (hw : ws[pw]? = some (aw, .inl (cI, 12, .inl wm))) (hz : ws[pz]? = some (az, .inl (cI, 12, .inl sp))) (now : po ≠ pw) (noz : po ≠ pz) : Met l yX1_loseCurrent wsX1_loseCurrent ({ frames := 2, cells := 0, slots := 0, locals := 45 }) (pcM G tys ws A [.ref ao]) (qMv G (ws.set po (ao, .inr (2, [.ref aw, .ref az, .int (cCur cur), .int du, .int ir, .long (wi + cWir cur wm), .long (dm + (cLost cur - cWir cur wm))]))) A) 0 0 A := by
  refine ofM (cc := cX1_loseCurrent) (maxL := 9) (ret := none) (by decide) rfl (Nat.le_of_ble_eq_true rfl) ?_
  intro p e s m below meth c ls hx hb hr hlocks hml hown hts hin hl hP hK hD hA hS
  have hown : s.vm.findClass RX1 = some m.cls := hown
  have hiX1 : ∀ w ∈ u_ws RX1 TX1 7, w ∈ wsX1_loseCurrent := fun _ h => List.mem_cons_of_mem _ (List.mem_append_right _ h)
  have hl : lv_has ls 9 [(0, .ref ao)] := hl
  refine lv_aload_n hx hb dX1_loseCurrent_0 rfl (lv_at hl 0 rfl) ?_
  refine vp_callSl (va_Run.run (va_runV (As := []) (rest := []) ⟨hx, hb, hml, hown, hts⟩ (metX1_stored l G tys cI htI _ ho hw hz) (cwV 0 hts gX1_loseCurrent_X1_stored rfl rfl rfl (by decide +kernel) ⟨Nat.le_of_ble_eq_true rfl, Nat.le_of_ble_eq_true rfl⟩) ⟨pcR_b, va_recv hK hP (ci := 2) (q0 := po) rfl ho, pcR_u hP hK⟩ rfl rfl hl.1 rfl (lv_room (Nat.le_of_ble_eq_true rfl)) dX1_loseCurrent_1 ⟨Nat.le_of_ble_eq_true rfl, Nat.le_of_ble_eq_true rfl⟩)) (fun r1 h1 => ?_)
  refine lv_lstore_n (lv' := [(1, .long r1), (0, .ref ao)]) hx hb dX1_loseCurrent_4 rfl hl (by decide) rfl (fun ls hl => ?_)
  refine lv_aload_n hx hb dX1_loseCurrent_5 rfl (lv_at hl 1 rfl) ?_
  refine lv_dup hx hb dX1_loseCurrent_6 rfl ?_
  refine va_get (D := G) (ci := 2) (v := .int cur) (C := RX1) (T := TX1) (N := 7) hx hb hts hiX1 hown hK hP po ho rfl 2 (by decide) (hts (.fieldLink RX1 33 "Vortexpin$Coil" "current" "I") (List.mem_of_getElem? (i := 1) rfl)) (fun _ h9 => h9) rfl dX1_loseCurrent_7 ?_
  refine lv_aload_n hx hb dX1_loseCurrent_10 rfl (lv_at hl 1 rfl) ?_
  refine va_get (D := G) (ci := 2) (v := .int cur) (C := RX1) (T := TX1) (N := 7) hx hb hts hiX1 hown hK hP po ho rfl 2 (by decide) (hts (.fieldLink RX1 33 "Vortexpin$Coil" "current" "I") (List.mem_of_getElem? (i := 1) rfl)) (fun _ h9 => h9) rfl dX1_loseCurrent_11 ?_
  refine lv_bipush (v := 15) hx hb dX1_loseCurrent_14 (by decide) ?_
  refine lv_iadd hx hb dX1_loseCurrent_16 ?_
  refine lv_bipush (v := 16) hx hb dX1_loseCurrent_17 (by decide) ?_
  refine lv_idiv hx hb dX1_loseCurrent_19 (by decide) ?_
  refine lv_isub hx hb dX1_loseCurrent_20 ?_
  refine va_put (D := G) (ci := 2) (v := .int (cur - ((cur + (15 : Int32)) / (16 : Int32)))) (ty := .int) (C := RX1) (T := TX1) (N := 7) hx hb hts hiX1 tyX1 tyX1_ok nmX1 hown hK hP hD hS po ho rfl 2 (by decide) (hts (.fieldLink RX1 33 "Vortexpin$Coil" "current" "I") (List.mem_of_getElem? (i := 1) rfl)) (fun _ h9 => h9) rfl (by decide +kernel) (rfl) (rfl) (Nat.le_of_ble_eq_true rfl) dX1_loseCurrent_21 (fun H locs hP hD hS => ?_)
  have hw := va_gs (k := po) (e := (ao, .inr (2, [.ref aw, .ref az, .int (cur - ((cur + (15 : Int32)) / (16 : Int32))), .int du, .int ir, .long wi, .long dm]))) (now.symm) hw
  have hz := va_gs (k := po) (e := (ao, .inr (2, [.ref aw, .ref az, .int (cur - ((cur + (15 : Int32)) / (16 : Int32))), .int du, .int ir, .long wi, .long dm]))) (noz.symm) hz
  have ho := va_ge (e := (ao, .inr (2, [.ref aw, .ref az, .int (cur - ((cur + (15 : Int32)) / (16 : Int32))), .int du, .int ir, .long wi, .long dm]))) ho
  refine lv_lload_n hx hb dX1_loseCurrent_24 rfl (lv_at hl 0 rfl) ?_
  refine lv_aload_n hx hb dX1_loseCurrent_25 rfl (lv_at hl 1 rfl) ?_
  refine vp_callSl (va_Run.run (va_runV (As := []) (rest := [.long r1]) ⟨hx, hb, hml, hown, hts⟩ (metX1_stored l G tys cI htI _ ho hw hz) (cwV 0 hts gX1_loseCurrent_X1_stored rfl rfl rfl (by decide +kernel) ⟨Nat.le_of_ble_eq_true rfl, Nat.le_of_ble_eq_true rfl⟩) ⟨pcR_b, va_recv hK hP (ci := 2) (q0 := po) rfl ho, pcR_u hP hK⟩ rfl rfl hl.1 rfl (lv_room (Nat.le_of_ble_eq_true rfl)) dX1_loseCurrent_26 ⟨Nat.le_of_ble_eq_true rfl, Nat.le_of_ble_eq_true rfl⟩)) (fun r26 h26 => ?_)
  refine lv_lsub hx hb dX1_loseCurrent_29 ?_
  refine lv_lstore_n (lv' := [(3, .long (r1 - r26)), (1, .long r1), (0, .ref ao)]) hx hb dX1_loseCurrent_30 rfl hl (by decide) rfl (fun ls hl => ?_)
  refine lv_aload_n hx hb dX1_loseCurrent_31 rfl (lv_at hl 2 rfl) ?_
  refine lv_iconst (v := 0) hx hb dX1_loseCurrent_32 (by decide) ?_
  refine lv_bipush (v := 12) hx hb dX1_loseCurrent_33 (by decide) ?_
  refine vp_callSi (va_Run.run (va_runV (As := [.int (0 : Int32), .int (12 : Int32)]) (rest := []) ⟨hx, hb, hml, hown, hts⟩ (metX1_normalParts l G tys cI htI _ ho hw hz 0 12 (by decide) (by decide)) (cwV 2 hts gX1_loseCurrent_X1_normalParts rfl rfl rfl (by decide +kernel) ⟨Nat.le_of_ble_eq_true rfl, Nat.le_of_ble_eq_true rfl⟩) ⟨pcR_b, va_recv hK hP (ci := 2) (q0 := po) rfl ho, pcR_u hP hK⟩ rfl rfl hl.1 rfl (lv_room (Nat.le_of_ble_eq_true rfl)) dX1_loseCurrent_35 ⟨Nat.le_of_ble_eq_true rfl, Nat.le_of_ble_eq_true rfl⟩)) (fun r35 h35 => ?_)
  refine lv_istore (lv' := [(5, .int r35), (3, .long (r1 - r26)), (1, .long r1), (0, .ref ao)]) hx hb dX1_loseCurrent_38 hl (by decide) rfl (fun ls hl => ?_)
  refine lv_iload hx hb dX1_loseCurrent_40 (lv_at hl 0 rfl) ?_
  refine lv_bipush (v := 20) hx hb dX1_loseCurrent_42 (by decide) ?_
  refine lv_iadd hx hb dX1_loseCurrent_44 ?_
  refine lv_istore (lv' := [(6, .int (r35 + (20 : Int32))), (5, .int r35), (3, .long (r1 - r26)), (1, .long r1), (0, .ref ao)]) hx hb dX1_loseCurrent_45 hl (by decide) rfl (fun ls hl => ?_)
  refine lv_iload hx hb dX1_loseCurrent_47 (lv_at hl 0 rfl) ?_
  refine lv_if_ne (tgt := 56) hx hb dX1_loseCurrent_49 (by decide) (fun c49 => ?_) (fun c49 => absurd c49 (by rw [h35]; exact fun q => cCnt_ne _ _ (by rw [q]; decide)))
  refine lv_lload_n hx hb dX1_loseCurrent_56 rfl (lv_at hl 2 rfl) ?_
  refine lv_iload hx hb dX1_loseCurrent_57 (lv_at hl 1 rfl) ?_
  refine lv_i2l hx hb dX1_loseCurrent_59 rfl ?_
  refine lv_lmul hx hb dX1_loseCurrent_60 ?_
  refine lv_iload hx hb dX1_loseCurrent_61 (lv_at hl 0 rfl) ?_
  refine lv_i2l hx hb dX1_loseCurrent_63 rfl ?_
  refine lv_ldiv hx hb dX1_loseCurrent_64 (by rw [h35]; exact cCnt_ne _ _) ?_
  refine lv_lstore (lv' := [(7, .long (((r1 - r26) * r35.toInt64) / ((r35 + (20 : Int32)).toInt64))), (6, .int (r35 + (20 : Int32))), (5, .int r35), (3, .long (r1 - r26)), (1, .long r1), (0, .ref ao)]) hx hb dX1_loseCurrent_65 hl (by decide) rfl (fun ls hl => ?_)
  refine lv_aload_n hx hb dX1_loseCurrent_67 rfl (lv_at hl 5 rfl) ?_
  refine lv_dup hx hb dX1_loseCurrent_68 rfl ?_
  refine va_get (D := G) (ci := 2) (v := .long wi) (C := RX1) (T := TX1) (N := 7) hx hb hts hiX1 hown hK hP po ho rfl 5 (by decide) (hts (.fieldLink RX1 41 "Vortexpin$Coil" "toWire" "J") (List.mem_of_getElem? (i := 2) rfl)) (fun _ h9 => h9) rfl dX1_loseCurrent_69 ?_
  refine lv_lload hx hb dX1_loseCurrent_72 (lv_at hl 0 rfl) ?_
  refine lv_ladd hx hb dX1_loseCurrent_74 ?_
  refine va_put (D := G) (ci := 2) (v := .long (wi + (((r1 - r26) * r35.toInt64) / ((r35 + (20 : Int32)).toInt64)))) (ty := .long) (C := RX1) (T := TX1) (N := 7) hx hb hts hiX1 tyX1 tyX1_ok nmX1 hown hK hP hD hS po ho rfl 5 (by decide) (hts (.fieldLink RX1 41 "Vortexpin$Coil" "toWire" "J") (List.mem_of_getElem? (i := 2) rfl)) (fun _ h9 => h9) rfl (by decide +kernel) (rfl) (rfl) (Nat.le_of_ble_eq_true rfl) dX1_loseCurrent_75 (fun H locs hP hD hS => ?_)
  have hw := va_gs (k := po) (e := (ao, .inr (2, [.ref aw, .ref az, .int (cur - ((cur + (15 : Int32)) / (16 : Int32))), .int du, .int ir, .long (wi + (((r1 - r26) * r35.toInt64) / ((r35 + (20 : Int32)).toInt64))), .long dm]))) (now.symm) hw
  have hz := va_gs (k := po) (e := (ao, .inr (2, [.ref aw, .ref az, .int (cur - ((cur + (15 : Int32)) / (16 : Int32))), .int du, .int ir, .long (wi + (((r1 - r26) * r35.toInt64) / ((r35 + (20 : Int32)).toInt64))), .long dm]))) (noz.symm) hz
  have ho := va_ge (e := (ao, .inr (2, [.ref aw, .ref az, .int (cur - ((cur + (15 : Int32)) / (16 : Int32))), .int du, .int ir, .long (wi + (((r1 - r26) * r35.toInt64) / ((r35 + (20 : Int32)).toInt64))), .long dm]))) ho
  refine lv_aload_n hx hb dX1_loseCurrent_78 rfl (lv_at hl 5 rfl) ?_
  refine lv_dup hx hb dX1_loseCurrent_79 rfl ?_
  refine va_get (D := G) (ci := 2) (v := .long dm) (C := RX1) (T := TX1) (N := 7) hx hb hts hiX1 hown hK hP po ho rfl 6 (by decide) (hts (.fieldLink RX1 45 "Vortexpin$Coil" "toDump" "J") (List.mem_of_getElem? (i := 3) rfl)) (fun _ h9 => h9) rfl dX1_loseCurrent_80 ?_
  refine lv_lload_n hx hb dX1_loseCurrent_83 rfl (lv_at hl 3 rfl) ?_
  refine lv_lload hx hb dX1_loseCurrent_84 (lv_at hl 0 rfl) ?_
  refine lv_lsub hx hb dX1_loseCurrent_86 ?_
  refine lv_ladd hx hb dX1_loseCurrent_87 ?_
  refine va_put (D := G) (ci := 2) (v := .long (dm + ((r1 - r26) - (((r1 - r26) * r35.toInt64) / ((r35 + (20 : Int32)).toInt64))))) (ty := .long) (C := RX1) (T := TX1) (N := 7) hx hb hts hiX1 tyX1 tyX1_ok nmX1 hown hK hP hD hS po ho rfl 6 (by decide) (hts (.fieldLink RX1 45 "Vortexpin$Coil" "toDump" "J") (List.mem_of_getElem? (i := 3) rfl)) (fun _ h9 => h9) rfl (by decide +kernel) (rfl) (rfl) (Nat.le_of_ble_eq_true rfl) dX1_loseCurrent_88 (fun H locs hP hD hS => ?_)
  have hw := va_gs (k := po) (e := (ao, .inr (2, [.ref aw, .ref az, .int (cur - ((cur + (15 : Int32)) / (16 : Int32))), .int du, .int ir, .long (wi + (((r1 - r26) * r35.toInt64) / ((r35 + (20 : Int32)).toInt64))), .long (dm + ((r1 - r26) - (((r1 - r26) * r35.toInt64) / ((r35 + (20 : Int32)).toInt64))))]))) (now.symm) hw
  have hz := va_gs (k := po) (e := (ao, .inr (2, [.ref aw, .ref az, .int (cur - ((cur + (15 : Int32)) / (16 : Int32))), .int du, .int ir, .long (wi + (((r1 - r26) * r35.toInt64) / ((r35 + (20 : Int32)).toInt64))), .long (dm + ((r1 - r26) - (((r1 - r26) * r35.toInt64) / ((r35 + (20 : Int32)).toInt64))))]))) (noz.symm) hz
  have ho := va_ge (e := (ao, .inr (2, [.ref aw, .ref az, .int (cur - ((cur + (15 : Int32)) / (16 : Int32))), .int du, .int ir, .long (wi + (((r1 - r26) * r35.toInt64) / ((r35 + (20 : Int32)).toInt64))), .long (dm + ((r1 - r26) - (((r1 - r26) * r35.toInt64) / ((r35 + (20 : Int32)).toInt64))))]))) ho
  exact W.vret hx hb hr (fun t ht hW => ⟨⟨(), rfl, trivial, by show va_P G vwCl _ t.heap; rw [ht]; simp only [List.set_set] at hP; rw [h1, h26, h35] at hP; exact hP⟩, hS.F ht⟩) hS.2.2 dX1_loseCurrent_91
set_option maxHeartbeats 4000000 in
set_option maxRecDepth 100000 in
theorem metX1_spreadWarmth (l : Launch) (G : va_G) (tys : List (ClassId × FieldType)) (cI : ClassId) (htI : tI tys cI) {A : Nat → Prop} (ws : va_W) {po pw pz ao aw az : Nat} {cur du ir : Int32} {wi dm : Int64} {wm sp : Nat → Int32} (ho : ws[po]? = some (ao, .inr (2, [.ref aw, .ref az, .int cur, .int du, .int ir, .long wi, .long dm]))) (hw : ws[pw]? = some (aw, .inl (cI, 12, .inl wm))) (hz : ws[pz]? = some (az, .inl (cI, 12, .inl sp))) (now : po ≠ pw) (noz : po ≠ pz) (nwz : pw ≠ pz) : Met l yX1_spreadWarmth wsX1_spreadWarmth ({ frames := 1, cells := 0, slots := 0, locals := 21 }) (pcM G tys ws A [.ref ao]) (qMv G ((ws.set pz (az, .inl (cI, 12, .inl (cSpr cur wm sp 12)))).set po (ao, .inr (2, [.ref az, .ref aw, .int cur, .int du, .int ir, .long wi, .long dm]))) A) 0 0 A := by
  refine ofM (cc := cX1_spreadWarmth) (maxL := 5) (ret := none) (by decide) rfl (Nat.le_of_ble_eq_true rfl) ?_
  intro p e s m below meth c ls hx hb hr hlocks hml hown hts hin hl hP hK hD hA hS
  have hown : s.vm.findClass RX1 = some m.cls := hown
  have hiX1 : ∀ w ∈ u_ws RX1 TX1 7, w ∈ wsX1_spreadWarmth := fun _ h => List.mem_cons_of_mem _ (List.mem_append_right _ h)
  have hl : lv_has ls 5 [(0, .ref ao)] := hl
  refine lv_aload_n hx hb dX1_spreadWarmth_0 rfl (lv_at hl 0 rfl) ?_
  refine va_get (D := G) (ci := 2) (v := .ref aw) (C := RX1) (T := TX1) (N := 7) hx hb hts hiX1 hown hK hP po ho rfl 0 (by decide) (hts (.fieldLink RX1 9 "Vortexpin$Coil" "warmths" "[I") (List.mem_of_getElem? (i := 1) rfl)) (fun _ h9 => h9) rfl dX1_spreadWarmth_1 ?_
  refine lv_astore_n (lv' := [(1, .ref aw), (0, .ref ao)]) hx hb dX1_spreadWarmth_4 rfl hl (by decide) rfl (fun ls hl => ?_)
  refine lv_iconst (v := 0) hx hb dX1_spreadWarmth_5 (by decide) ?_
  refine lv_istore_n (lv' := [(2, .int (0 : Int32)), (1, .ref aw), (0, .ref ao)]) hx hb dX1_spreadWarmth_6 rfl hl (by decide) rfl (fun ls hl => ?_)
  refine loopM 12 7 5 (fun i => [(0, .ref ao), (1, .ref aw), (2, .int (nI i))]) (fun i => ws.set pz (az, .inl (cI, 12, .inl (cSpr cur wm sp i)))) (fun i => True) (fun i hNi hKi ihi H locs ls hP hD hS hl => ?_) (i0 := 0) (by omega) (trivial) (by show va_P G vwCl (ws.set pz (az, .inl (cI, 12, .inl (cSpr cur wm sp 0)))) _; rw [cSpr_0, va_self hz]; exact hP) (by show va_D A (ws.set pz (az, .inl (cI, 12, .inl (cSpr cur wm sp 0)))); rw [cSpr_0, va_self hz]; exact hD) hS (lv_sub hl [2, 1, 0] rfl)
  have hl : lv_has ls 5 [(0, .ref ao), (1, .ref aw), (2, .int (nI i))] := hl
  have hP : va_P G vwCl (ws.set pz (az, .inl (cI, 12, .inl (cSpr cur wm sp i)))) H := hP
  have hD : va_D A (ws.set pz (az, .inl (cI, 12, .inl (cSpr cur wm sp i)))) := hD
  have ho := va_gs (k := pz) (e := (az, .inl (cI, 12, .inl (cSpr cur wm sp i)))) noz ho
  have hw := va_gs (k := pz) (e := (az, .inl (cI, 12, .inl (cSpr cur wm sp i)))) nwz hw
  have hz := va_ge (e := (az, .inl (cI, 12, .inl (cSpr cur wm sp i)))) hz
  refine lv_iload_n hx hb dX1_spreadWarmth_7 rfl (lv_at hl 2 rfl) ?_
  refine lv_aload_n hx hb dX1_spreadWarmth_8 rfl (lv_at hl 1 rfl) ?_
  refine va_alen hx hb hK hP pw 0 hw htI (v := (12 : Int32)) rfl dX1_spreadWarmth_9 ?_
  refine lv_icmp_ge (tgt := 124) hx hb dX1_spreadWarmth_10 (by decide) (fun c10 => ?_) (fun c10 => ?_)
  · have heqi : i = 12 := Nat.le_antisymm hNi ((nI_leI (by omega) (by omega)).mp c10)
    refine lv_aload_n hx hb dX1_spreadWarmth_124 rfl (lv_at hl 0 rfl) ?_
    refine lv_aload_n hx hb dX1_spreadWarmth_125 rfl (lv_at hl 0 rfl) ?_
    refine va_get (D := G) (ci := 2) (v := .ref az) (C := RX1) (T := TX1) (N := 7) hx hb hts hiX1 hown hK hP po ho rfl 1 (by decide) (hts (.fieldLink RX1 13 "Vortexpin$Coil" "spare" "[I") (List.mem_of_getElem? (i := 2) rfl)) (fun _ h9 => h9) rfl dX1_spreadWarmth_126 ?_
    refine va_put (D := G) (ci := 2) (v := .ref az) (ty := .array .int) (C := RX1) (T := TX1) (N := 7) hx hb hts hiX1 tyX1 tyX1_ok nmX1 hown hK hP hD hS po ho rfl 0 (by decide) (hts (.fieldLink RX1 9 "Vortexpin$Coil" "warmths" "[I") (List.mem_of_getElem? (i := 1) rfl)) (fun _ h9 => h9) rfl (by decide +kernel) (rfl) (rfl) (Nat.le_of_ble_eq_true rfl) dX1_spreadWarmth_129 (fun H locs hP hD hS => ?_)
    have hw := va_gs (k := po) (e := (ao, .inr (2, [.ref az, .ref az, .int cur, .int du, .int ir, .long wi, .long dm]))) (now.symm) hw
    have hz := va_gs (k := po) (e := (ao, .inr (2, [.ref az, .ref az, .int cur, .int du, .int ir, .long wi, .long dm]))) (noz.symm) hz
    have ho := va_ge (e := (ao, .inr (2, [.ref az, .ref az, .int cur, .int du, .int ir, .long wi, .long dm]))) ho
    refine lv_aload_n hx hb dX1_spreadWarmth_132 rfl (lv_at hl 0 rfl) ?_
    refine lv_aload_n hx hb dX1_spreadWarmth_133 rfl (lv_at hl 1 rfl) ?_
    refine va_put (D := G) (ci := 2) (v := .ref aw) (ty := .array .int) (C := RX1) (T := TX1) (N := 7) hx hb hts hiX1 tyX1 tyX1_ok nmX1 hown hK hP hD hS po ho rfl 1 (by decide) (hts (.fieldLink RX1 13 "Vortexpin$Coil" "spare" "[I") (List.mem_of_getElem? (i := 2) rfl)) (fun _ h9 => h9) rfl (by decide +kernel) (rfl) (rfl) (Nat.le_of_ble_eq_true rfl) dX1_spreadWarmth_134 (fun H locs hP hD hS => ?_)
    have hw := va_gs (k := po) (e := (ao, .inr (2, [.ref az, .ref aw, .int cur, .int du, .int ir, .long wi, .long dm]))) (now.symm) hw
    have hz := va_gs (k := po) (e := (ao, .inr (2, [.ref az, .ref aw, .int cur, .int du, .int ir, .long wi, .long dm]))) (noz.symm) hz
    have ho := va_ge (e := (ao, .inr (2, [.ref az, .ref aw, .int cur, .int du, .int ir, .long wi, .long dm]))) ho
    exact W.vret hx hb hr (fun t ht hW => ⟨⟨(), rfl, trivial, by show va_P G vwCl _ t.heap; rw [ht]; rw [heqi] at hP; simp only [List.set_set] at hP; exact hP⟩, hS.F ht⟩) hS.2.2 dX1_spreadWarmth_137
  · have hlti : i < 12 := Nat.lt_of_not_le (mt (nI_leI (by omega) (by omega)).mpr c10)
    refine lv_iload_n hx hb dX1_spreadWarmth_13 rfl (lv_at hl 2 rfl) ?_
    refine lv_aload_n hx hb dX1_spreadWarmth_14 rfl (lv_at hl 0 rfl) ?_
    refine va_get (D := G) (ci := 2) (v := .ref az) (C := RX1) (T := TX1) (N := 7) hx hb hts hiX1 hown hK hP po ho rfl 1 (by decide) (hts (.fieldLink RX1 13 "Vortexpin$Coil" "spare" "[I") (List.mem_of_getElem? (i := 2) rfl)) (fun _ h9 => h9) rfl dX1_spreadWarmth_15 ?_
    refine va_alen hx hb hK hP pz 0 hz htI (v := (12 : Int32)) rfl dX1_spreadWarmth_18 ?_
    refine lv_icmp_ge (tgt := 124) hx hb dX1_spreadWarmth_19 (by decide) (fun c19 => absurd c19 (by exact nI_ge (show i < 12 by omega) (by decide))) (fun c19 => ?_)
    refine lv_aload_n hx hb dX1_spreadWarmth_22 rfl (lv_at hl 1 rfl) ?_
    refine lv_iload_n hx hb dX1_spreadWarmth_23 rfl (lv_at hl 2 rfl) ?_
    refine va_iald hx hb hK hP pw 0 hw htI (by first | exact vp_in_nI (by omega) (by omega) | assumption) dX1_spreadWarmth_24 ?_
    refine rd_i (j := i) (nI_clamp (by omega)) ?_
    refine lv_istore_n (lv' := [(3, .int (wm i)), (0, .ref ao), (1, .ref aw), (2, .int (nI i))]) hx hb dX1_spreadWarmth_25 rfl hl (by decide) rfl (fun ls hl => ?_)
    refine lv_iload_n hx hb dX1_spreadWarmth_26 rfl (lv_at hl 0 rfl) ?_
    refine lv_iload_n hx hb dX1_spreadWarmth_27 rfl (lv_at hl 0 rfl) ?_
    refine lv_iconst (v := 4) hx hb dX1_spreadWarmth_28 (by decide) ?_
    refine lv_isub hx hb dX1_spreadWarmth_29 ?_
    refine lv_bipush (v := 16) hx hb dX1_spreadWarmth_30 (by decide) ?_
    refine lv_idiv hx hb dX1_spreadWarmth_32 (by decide) ?_
    refine lv_isub hx hb dX1_spreadWarmth_33 ?_
    refine lv_istore (lv' := [(4, .int ((wm i) - (((wm i) - (4 : Int32)) / (16 : Int32)))), (3, .int (wm i)), (0, .ref ao), (1, .ref aw), (2, .int (nI i))]) hx hb dX1_spreadWarmth_34 hl (by decide) rfl (fun ls hl => ?_)
    refine lv_aload_n hx hb dX1_spreadWarmth_36 rfl (lv_at hl 2 rfl) ?_
    refine lv_iload_n hx hb dX1_spreadWarmth_37 rfl (lv_at hl 1 rfl) ?_
    refine vp_callSi (va_Run.run (va_runV (As := [.int (wm i)]) (rest := []) ⟨hx, hb, hml, hown, hts⟩ (metX1_isNormal l G tys cI htI _ ho hw hz (wm i)) (cwV 1 hts gX1_spreadWarmth_X1_isNormal rfl rfl rfl (by decide +kernel) ⟨Nat.le_of_ble_eq_true rfl, Nat.le_of_ble_eq_true rfl⟩) ⟨pcR_b, va_recv hK hP (ci := 2) (q0 := po) rfl ho, pcR_u hP hK⟩ rfl rfl hl.1 rfl (lv_room (Nat.le_of_ble_eq_true rfl)) dX1_spreadWarmth_38 ⟨Nat.le_of_ble_eq_true rfl, Nat.le_of_ble_eq_true rfl⟩)) (fun r38 h38 => ?_)
    refine lv_if_eq (tgt := 62) hx hb dX1_spreadWarmth_41 (by decide) (fun c41 => ?_) (fun c41 => ?_)
    · refine lv_iload_n hx hb dX1_spreadWarmth_62 rfl (lv_at hl 4 rfl) ?_
      refine lv_if_le (tgt := 81) hx hb dX1_spreadWarmth_63 (by decide) (fun c63 => ?_) (fun c63 => ?_)
      · refine lv_iload_n hx hb dX1_spreadWarmth_81 rfl (lv_at hl 4 rfl) ?_
        refine lv_iconst (v := 1) hx hb dX1_spreadWarmth_82 (by decide) ?_
        refine lv_iadd hx hb dX1_spreadWarmth_83 ?_
        refine lv_aload_n hx hb dX1_spreadWarmth_84 rfl (lv_at hl 3 rfl) ?_
        refine va_alen hx hb hK hP pw 0 hw htI (v := (12 : Int32)) rfl dX1_spreadWarmth_85 ?_
        refine lv_icmp_ge (tgt := 104) hx hb dX1_spreadWarmth_86 (by decide) (fun c86 => ?_) (fun c86 => ?_)
        · refine lv_aload_n hx hb dX1_spreadWarmth_104 rfl (lv_at hl 2 rfl) ?_
          refine va_get (D := G) (ci := 2) (v := .ref az) (C := RX1) (T := TX1) (N := 7) hx hb hts hiX1 hown hK hP po ho rfl 1 (by decide) (hts (.fieldLink RX1 13 "Vortexpin$Coil" "spare" "[I") (List.mem_of_getElem? (i := 2) rfl)) (fun _ h9 => h9) rfl dX1_spreadWarmth_105 ?_
          refine lv_iload_n hx hb dX1_spreadWarmth_108 rfl (lv_at hl 4 rfl) ?_
          refine lv_sipush (v := 1000) hx hb dX1_spreadWarmth_109 (by decide) ?_
          refine lv_iload hx hb dX1_spreadWarmth_112 (lv_at hl 0 rfl) ?_
          refine va_mmin hx hb (hml.trans hl.1.symm) hown (hts (.methodLink RX1 52 Lib.Math.min.name) (List.mem_of_getElem? (i := 4) rfl)) (hts (.static Lib.Math.min.name) (List.mem_of_getElem? (i := 5) rfl)) (hts (.initialized "java/lang/Math") (List.mem_of_getElem? (i := 6) rfl)) (hts (.code Lib.Math.min.name Lib.Math.min.code 2 (some .int)) (List.mem_of_getElem? (i := 7) rfl)) (Nat.le_of_ble_eq_true rfl) (Nat.le_of_ble_eq_true rfl) (Nat.le_of_ble_eq_true rfl) (Nat.le_of_ble_eq_true rfl) dX1_spreadWarmth_114 ?_
          refine fold_min ?_
          refine va_iast hx hb hK hP hD hS pz 0 hz htI (by first | exact vp_in_nI (by omega) (by omega) | assumption) dX1_spreadWarmth_117 (fun H locs hP hD hS => ?_)
          have ho := va_gs (k := pz) (e := (az, .inl (cI, 12, .inl (upd (cSpr cur wm sp i) (nI i).toNatClampNeg (jmin (1000 : Int32) ((wm i) - (((wm i) - (4 : Int32)) / (16 : Int32)))))))) (noz) ho
          have hw := va_gs (k := pz) (e := (az, .inl (cI, 12, .inl (upd (cSpr cur wm sp i) (nI i).toNatClampNeg (jmin (1000 : Int32) ((wm i) - (((wm i) - (4 : Int32)) / (16 : Int32)))))))) (nwz) hw
          have hz := va_ge (e := (az, .inl (cI, 12, .inl (upd (cSpr cur wm sp i) (nI i).toNatClampNeg (jmin (1000 : Int32) ((wm i) - (((wm i) - (4 : Int32)) / (16 : Int32)))))))) hz
          refine lv_iinc (v := nI (i + 1)) (lv' := [(2, .int (nI (i + 1))), (4, .int ((wm i) - (((wm i) - (4 : Int32)) / (16 : Int32)))), (3, .int (wm i)), (0, .ref ao), (1, .ref aw)]) hx hb dX1_spreadWarmth_118 hl (k := 4) rfl (nI_1 i) (by decide) rfl (fun ls hl => ?_)
          refine lv_goto (tgt := 7) hx hb dX1_spreadWarmth_121 (by decide) ?_
          have ew : (ws.set pz (az, .inl (cI, 12, .inl (cSpr cur wm sp i)))).set pz (az, .inl (cI, 12, .inl (upd (cSpr cur wm sp i) (nI i).toNatClampNeg (jmin (1000 : Int32) ((wm i) - (((wm i) - (4 : Int32)) / (16 : Int32))))))) = ws.set pz (az, .inl (cI, 12, .inl (cSpr cur wm sp (i + 1)))) := by subst h38; rw [nI_clamp (show i < 2 ^ 31 by omega), List.set_set, ← cSpr_s]; simp [cV4, cV3, cV2, cV1, c10, c19, (eq_true c41), c63, c86]
          have hP : va_P G vwCl ((ws.set pz (az, .inl (cI, 12, .inl (cSpr cur wm sp i)))).set pz (az, .inl (cI, 12, .inl (upd (cSpr cur wm sp i) (nI i).toNatClampNeg (jmin (1000 : Int32) ((wm i) - (((wm i) - (4 : Int32)) / (16 : Int32)))))))) H := hP
          have hD : va_D A ((ws.set pz (az, .inl (cI, 12, .inl (cSpr cur wm sp i)))).set pz (az, .inl (cI, 12, .inl (upd (cSpr cur wm sp i) (nI i).toNatClampNeg (jmin (1000 : Int32) ((wm i) - (((wm i) - (4 : Int32)) / (16 : Int32)))))))) := hD
          rw [ew] at hP hD
          exact ihi H _ ls hlti (trivial) hP hD hS (lv_sub hl [3, 4, 0] rfl)
        · refine lv_iload hx hb dX1_spreadWarmth_89 (lv_at hl 0 rfl) ?_
          refine lv_aload_n hx hb dX1_spreadWarmth_91 rfl (lv_at hl 3 rfl) ?_
          refine lv_iload_n hx hb dX1_spreadWarmth_92 rfl (lv_at hl 4 rfl) ?_
          refine lv_iconst (v := 1) hx hb dX1_spreadWarmth_93 (by decide) ?_
          refine lv_iadd hx hb dX1_spreadWarmth_94 ?_
          refine va_iald hx hb hK hP pw 0 hw htI (by rw [nI_1] at c86 ⊢; exact vp_in_nI (Nat.lt_of_not_le (mt (nI_leI (a := 12) (by omega) (by omega)).mpr c86)) (by omega)) dX1_spreadWarmth_95 ?_
          refine rd_i (j := i + 1) (by rw [nI_1]; exact nI_clamp (by omega)) ?_
          refine lv_iload_n hx hb dX1_spreadWarmth_96 rfl (lv_at hl 1 rfl) ?_
          refine lv_isub hx hb dX1_spreadWarmth_97 ?_
          refine lv_bipush (v := 8) hx hb dX1_spreadWarmth_98 (by decide) ?_
          refine lv_idiv hx hb dX1_spreadWarmth_100 (by decide) ?_
          refine lv_iadd hx hb dX1_spreadWarmth_101 ?_
          refine lv_istore (lv' := [(4, .int (((wm i) - (((wm i) - (4 : Int32)) / (16 : Int32))) + (((wm (i + 1)) - (wm i)) / (8 : Int32)))), (3, .int (wm i)), (0, .ref ao), (1, .ref aw), (2, .int (nI i))]) hx hb dX1_spreadWarmth_102 hl (by decide) rfl (fun ls hl => ?_)
          refine lv_aload_n hx hb dX1_spreadWarmth_104 rfl (lv_at hl 2 rfl) ?_
          refine va_get (D := G) (ci := 2) (v := .ref az) (C := RX1) (T := TX1) (N := 7) hx hb hts hiX1 hown hK hP po ho rfl 1 (by decide) (hts (.fieldLink RX1 13 "Vortexpin$Coil" "spare" "[I") (List.mem_of_getElem? (i := 2) rfl)) (fun _ h9 => h9) rfl dX1_spreadWarmth_105 ?_
          refine lv_iload_n hx hb dX1_spreadWarmth_108 rfl (lv_at hl 4 rfl) ?_
          refine lv_sipush (v := 1000) hx hb dX1_spreadWarmth_109 (by decide) ?_
          refine lv_iload hx hb dX1_spreadWarmth_112 (lv_at hl 0 rfl) ?_
          refine va_mmin hx hb (hml.trans hl.1.symm) hown (hts (.methodLink RX1 52 Lib.Math.min.name) (List.mem_of_getElem? (i := 4) rfl)) (hts (.static Lib.Math.min.name) (List.mem_of_getElem? (i := 5) rfl)) (hts (.initialized "java/lang/Math") (List.mem_of_getElem? (i := 6) rfl)) (hts (.code Lib.Math.min.name Lib.Math.min.code 2 (some .int)) (List.mem_of_getElem? (i := 7) rfl)) (Nat.le_of_ble_eq_true rfl) (Nat.le_of_ble_eq_true rfl) (Nat.le_of_ble_eq_true rfl) (Nat.le_of_ble_eq_true rfl) dX1_spreadWarmth_114 ?_
          refine fold_min ?_
          refine va_iast hx hb hK hP hD hS pz 0 hz htI (by first | exact vp_in_nI (by omega) (by omega) | assumption) dX1_spreadWarmth_117 (fun H locs hP hD hS => ?_)
          have ho := va_gs (k := pz) (e := (az, .inl (cI, 12, .inl (upd (cSpr cur wm sp i) (nI i).toNatClampNeg (jmin (1000 : Int32) (((wm i) - (((wm i) - (4 : Int32)) / (16 : Int32))) + (((wm (i + 1)) - (wm i)) / (8 : Int32)))))))) (noz) ho
          have hw := va_gs (k := pz) (e := (az, .inl (cI, 12, .inl (upd (cSpr cur wm sp i) (nI i).toNatClampNeg (jmin (1000 : Int32) (((wm i) - (((wm i) - (4 : Int32)) / (16 : Int32))) + (((wm (i + 1)) - (wm i)) / (8 : Int32)))))))) (nwz) hw
          have hz := va_ge (e := (az, .inl (cI, 12, .inl (upd (cSpr cur wm sp i) (nI i).toNatClampNeg (jmin (1000 : Int32) (((wm i) - (((wm i) - (4 : Int32)) / (16 : Int32))) + (((wm (i + 1)) - (wm i)) / (8 : Int32)))))))) hz
          refine lv_iinc (v := nI (i + 1)) (lv' := [(2, .int (nI (i + 1))), (4, .int (((wm i) - (((wm i) - (4 : Int32)) / (16 : Int32))) + (((wm (i + 1)) - (wm i)) / (8 : Int32)))), (3, .int (wm i)), (0, .ref ao), (1, .ref aw)]) hx hb dX1_spreadWarmth_118 hl (k := 4) rfl (nI_1 i) (by decide) rfl (fun ls hl => ?_)
          refine lv_goto (tgt := 7) hx hb dX1_spreadWarmth_121 (by decide) ?_
          have ew : (ws.set pz (az, .inl (cI, 12, .inl (cSpr cur wm sp i)))).set pz (az, .inl (cI, 12, .inl (upd (cSpr cur wm sp i) (nI i).toNatClampNeg (jmin (1000 : Int32) (((wm i) - (((wm i) - (4 : Int32)) / (16 : Int32))) + (((wm (i + 1)) - (wm i)) / (8 : Int32))))))) = ws.set pz (az, .inl (cI, 12, .inl (cSpr cur wm sp (i + 1)))) := by subst h38; rw [nI_clamp (show i < 2 ^ 31 by omega), List.set_set, ← cSpr_s]; simp [cV4, cV3, cV2, cV1, c10, c19, (eq_true c41), c63, c86]
          have hP : va_P G vwCl ((ws.set pz (az, .inl (cI, 12, .inl (cSpr cur wm sp i)))).set pz (az, .inl (cI, 12, .inl (upd (cSpr cur wm sp i) (nI i).toNatClampNeg (jmin (1000 : Int32) (((wm i) - (((wm i) - (4 : Int32)) / (16 : Int32))) + (((wm (i + 1)) - (wm i)) / (8 : Int32)))))))) H := hP
          have hD : va_D A ((ws.set pz (az, .inl (cI, 12, .inl (cSpr cur wm sp i)))).set pz (az, .inl (cI, 12, .inl (upd (cSpr cur wm sp i) (nI i).toNatClampNeg (jmin (1000 : Int32) (((wm i) - (((wm i) - (4 : Int32)) / (16 : Int32))) + (((wm (i + 1)) - (wm i)) / (8 : Int32)))))))) := hD
          rw [ew] at hP hD
          exact ihi H _ ls hlti (trivial) hP hD hS (lv_sub hl [3, 4, 0] rfl)
      · refine lv_iload hx hb dX1_spreadWarmth_66 (lv_at hl 0 rfl) ?_
        refine lv_aload_n hx hb dX1_spreadWarmth_68 rfl (lv_at hl 3 rfl) ?_
        refine lv_iload_n hx hb dX1_spreadWarmth_69 rfl (lv_at hl 4 rfl) ?_
        refine lv_iconst (v := 1) hx hb dX1_spreadWarmth_70 (by decide) ?_
        refine lv_isub hx hb dX1_spreadWarmth_71 ?_
        refine va_iald hx hb hK hP pw 0 hw htI (by rw [nI_m1' (nI_pos0 c63)]; exact vp_in_nI (by omega) (by omega)) dX1_spreadWarmth_72 ?_
        refine rd_i (j := i - 1) (by rw [nI_m1' (nI_pos0 c63)]; exact nI_clamp (by omega)) ?_
        refine lv_iload_n hx hb dX1_spreadWarmth_73 rfl (lv_at hl 1 rfl) ?_
        refine lv_isub hx hb dX1_spreadWarmth_74 ?_
        refine lv_bipush (v := 8) hx hb dX1_spreadWarmth_75 (by decide) ?_
        refine lv_idiv hx hb dX1_spreadWarmth_77 (by decide) ?_
        refine lv_iadd hx hb dX1_spreadWarmth_78 ?_
        refine lv_istore (lv' := [(4, .int (((wm i) - (((wm i) - (4 : Int32)) / (16 : Int32))) + (((wm (i - 1)) - (wm i)) / (8 : Int32)))), (3, .int (wm i)), (0, .ref ao), (1, .ref aw), (2, .int (nI i))]) hx hb dX1_spreadWarmth_79 hl (by decide) rfl (fun ls hl => ?_)
        refine lv_iload_n hx hb dX1_spreadWarmth_81 rfl (lv_at hl 4 rfl) ?_
        refine lv_iconst (v := 1) hx hb dX1_spreadWarmth_82 (by decide) ?_
        refine lv_iadd hx hb dX1_spreadWarmth_83 ?_
        refine lv_aload_n hx hb dX1_spreadWarmth_84 rfl (lv_at hl 3 rfl) ?_
        refine va_alen hx hb hK hP pw 0 hw htI (v := (12 : Int32)) rfl dX1_spreadWarmth_85 ?_
        refine lv_icmp_ge (tgt := 104) hx hb dX1_spreadWarmth_86 (by decide) (fun c86 => ?_) (fun c86 => ?_)
        · refine lv_aload_n hx hb dX1_spreadWarmth_104 rfl (lv_at hl 2 rfl) ?_
          refine va_get (D := G) (ci := 2) (v := .ref az) (C := RX1) (T := TX1) (N := 7) hx hb hts hiX1 hown hK hP po ho rfl 1 (by decide) (hts (.fieldLink RX1 13 "Vortexpin$Coil" "spare" "[I") (List.mem_of_getElem? (i := 2) rfl)) (fun _ h9 => h9) rfl dX1_spreadWarmth_105 ?_
          refine lv_iload_n hx hb dX1_spreadWarmth_108 rfl (lv_at hl 4 rfl) ?_
          refine lv_sipush (v := 1000) hx hb dX1_spreadWarmth_109 (by decide) ?_
          refine lv_iload hx hb dX1_spreadWarmth_112 (lv_at hl 0 rfl) ?_
          refine va_mmin hx hb (hml.trans hl.1.symm) hown (hts (.methodLink RX1 52 Lib.Math.min.name) (List.mem_of_getElem? (i := 4) rfl)) (hts (.static Lib.Math.min.name) (List.mem_of_getElem? (i := 5) rfl)) (hts (.initialized "java/lang/Math") (List.mem_of_getElem? (i := 6) rfl)) (hts (.code Lib.Math.min.name Lib.Math.min.code 2 (some .int)) (List.mem_of_getElem? (i := 7) rfl)) (Nat.le_of_ble_eq_true rfl) (Nat.le_of_ble_eq_true rfl) (Nat.le_of_ble_eq_true rfl) (Nat.le_of_ble_eq_true rfl) dX1_spreadWarmth_114 ?_
          refine fold_min ?_
          refine va_iast hx hb hK hP hD hS pz 0 hz htI (by first | exact vp_in_nI (by omega) (by omega) | assumption) dX1_spreadWarmth_117 (fun H locs hP hD hS => ?_)
          have ho := va_gs (k := pz) (e := (az, .inl (cI, 12, .inl (upd (cSpr cur wm sp i) (nI i).toNatClampNeg (jmin (1000 : Int32) (((wm i) - (((wm i) - (4 : Int32)) / (16 : Int32))) + (((wm (i - 1)) - (wm i)) / (8 : Int32)))))))) (noz) ho
          have hw := va_gs (k := pz) (e := (az, .inl (cI, 12, .inl (upd (cSpr cur wm sp i) (nI i).toNatClampNeg (jmin (1000 : Int32) (((wm i) - (((wm i) - (4 : Int32)) / (16 : Int32))) + (((wm (i - 1)) - (wm i)) / (8 : Int32)))))))) (nwz) hw
          have hz := va_ge (e := (az, .inl (cI, 12, .inl (upd (cSpr cur wm sp i) (nI i).toNatClampNeg (jmin (1000 : Int32) (((wm i) - (((wm i) - (4 : Int32)) / (16 : Int32))) + (((wm (i - 1)) - (wm i)) / (8 : Int32)))))))) hz
          refine lv_iinc (v := nI (i + 1)) (lv' := [(2, .int (nI (i + 1))), (4, .int (((wm i) - (((wm i) - (4 : Int32)) / (16 : Int32))) + (((wm (i - 1)) - (wm i)) / (8 : Int32)))), (3, .int (wm i)), (0, .ref ao), (1, .ref aw)]) hx hb dX1_spreadWarmth_118 hl (k := 4) rfl (nI_1 i) (by decide) rfl (fun ls hl => ?_)
          refine lv_goto (tgt := 7) hx hb dX1_spreadWarmth_121 (by decide) ?_
          have ew : (ws.set pz (az, .inl (cI, 12, .inl (cSpr cur wm sp i)))).set pz (az, .inl (cI, 12, .inl (upd (cSpr cur wm sp i) (nI i).toNatClampNeg (jmin (1000 : Int32) (((wm i) - (((wm i) - (4 : Int32)) / (16 : Int32))) + (((wm (i - 1)) - (wm i)) / (8 : Int32))))))) = ws.set pz (az, .inl (cI, 12, .inl (cSpr cur wm sp (i + 1)))) := by subst h38; rw [nI_clamp (show i < 2 ^ 31 by omega), List.set_set, ← cSpr_s]; simp [cV4, cV3, cV2, cV1, c10, c19, (eq_true c41), c63, c86]
          have hP : va_P G vwCl ((ws.set pz (az, .inl (cI, 12, .inl (cSpr cur wm sp i)))).set pz (az, .inl (cI, 12, .inl (upd (cSpr cur wm sp i) (nI i).toNatClampNeg (jmin (1000 : Int32) (((wm i) - (((wm i) - (4 : Int32)) / (16 : Int32))) + (((wm (i - 1)) - (wm i)) / (8 : Int32)))))))) H := hP
          have hD : va_D A ((ws.set pz (az, .inl (cI, 12, .inl (cSpr cur wm sp i)))).set pz (az, .inl (cI, 12, .inl (upd (cSpr cur wm sp i) (nI i).toNatClampNeg (jmin (1000 : Int32) (((wm i) - (((wm i) - (4 : Int32)) / (16 : Int32))) + (((wm (i - 1)) - (wm i)) / (8 : Int32)))))))) := hD
          rw [ew] at hP hD
          exact ihi H _ ls hlti (trivial) hP hD hS (lv_sub hl [3, 4, 0] rfl)
        · refine lv_iload hx hb dX1_spreadWarmth_89 (lv_at hl 0 rfl) ?_
          refine lv_aload_n hx hb dX1_spreadWarmth_91 rfl (lv_at hl 3 rfl) ?_
          refine lv_iload_n hx hb dX1_spreadWarmth_92 rfl (lv_at hl 4 rfl) ?_
          refine lv_iconst (v := 1) hx hb dX1_spreadWarmth_93 (by decide) ?_
          refine lv_iadd hx hb dX1_spreadWarmth_94 ?_
          refine va_iald hx hb hK hP pw 0 hw htI (by rw [nI_1] at c86 ⊢; exact vp_in_nI (Nat.lt_of_not_le (mt (nI_leI (a := 12) (by omega) (by omega)).mpr c86)) (by omega)) dX1_spreadWarmth_95 ?_
          refine rd_i (j := i + 1) (by rw [nI_1]; exact nI_clamp (by omega)) ?_
          refine lv_iload_n hx hb dX1_spreadWarmth_96 rfl (lv_at hl 1 rfl) ?_
          refine lv_isub hx hb dX1_spreadWarmth_97 ?_
          refine lv_bipush (v := 8) hx hb dX1_spreadWarmth_98 (by decide) ?_
          refine lv_idiv hx hb dX1_spreadWarmth_100 (by decide) ?_
          refine lv_iadd hx hb dX1_spreadWarmth_101 ?_
          refine lv_istore (lv' := [(4, .int ((((wm i) - (((wm i) - (4 : Int32)) / (16 : Int32))) + (((wm (i - 1)) - (wm i)) / (8 : Int32))) + (((wm (i + 1)) - (wm i)) / (8 : Int32)))), (3, .int (wm i)), (0, .ref ao), (1, .ref aw), (2, .int (nI i))]) hx hb dX1_spreadWarmth_102 hl (by decide) rfl (fun ls hl => ?_)
          refine lv_aload_n hx hb dX1_spreadWarmth_104 rfl (lv_at hl 2 rfl) ?_
          refine va_get (D := G) (ci := 2) (v := .ref az) (C := RX1) (T := TX1) (N := 7) hx hb hts hiX1 hown hK hP po ho rfl 1 (by decide) (hts (.fieldLink RX1 13 "Vortexpin$Coil" "spare" "[I") (List.mem_of_getElem? (i := 2) rfl)) (fun _ h9 => h9) rfl dX1_spreadWarmth_105 ?_
          refine lv_iload_n hx hb dX1_spreadWarmth_108 rfl (lv_at hl 4 rfl) ?_
          refine lv_sipush (v := 1000) hx hb dX1_spreadWarmth_109 (by decide) ?_
          refine lv_iload hx hb dX1_spreadWarmth_112 (lv_at hl 0 rfl) ?_
          refine va_mmin hx hb (hml.trans hl.1.symm) hown (hts (.methodLink RX1 52 Lib.Math.min.name) (List.mem_of_getElem? (i := 4) rfl)) (hts (.static Lib.Math.min.name) (List.mem_of_getElem? (i := 5) rfl)) (hts (.initialized "java/lang/Math") (List.mem_of_getElem? (i := 6) rfl)) (hts (.code Lib.Math.min.name Lib.Math.min.code 2 (some .int)) (List.mem_of_getElem? (i := 7) rfl)) (Nat.le_of_ble_eq_true rfl) (Nat.le_of_ble_eq_true rfl) (Nat.le_of_ble_eq_true rfl) (Nat.le_of_ble_eq_true rfl) dX1_spreadWarmth_114 ?_
          refine fold_min ?_
          refine va_iast hx hb hK hP hD hS pz 0 hz htI (by first | exact vp_in_nI (by omega) (by omega) | assumption) dX1_spreadWarmth_117 (fun H locs hP hD hS => ?_)
          have ho := va_gs (k := pz) (e := (az, .inl (cI, 12, .inl (upd (cSpr cur wm sp i) (nI i).toNatClampNeg (jmin (1000 : Int32) ((((wm i) - (((wm i) - (4 : Int32)) / (16 : Int32))) + (((wm (i - 1)) - (wm i)) / (8 : Int32))) + (((wm (i + 1)) - (wm i)) / (8 : Int32)))))))) (noz) ho
          have hw := va_gs (k := pz) (e := (az, .inl (cI, 12, .inl (upd (cSpr cur wm sp i) (nI i).toNatClampNeg (jmin (1000 : Int32) ((((wm i) - (((wm i) - (4 : Int32)) / (16 : Int32))) + (((wm (i - 1)) - (wm i)) / (8 : Int32))) + (((wm (i + 1)) - (wm i)) / (8 : Int32)))))))) (nwz) hw
          have hz := va_ge (e := (az, .inl (cI, 12, .inl (upd (cSpr cur wm sp i) (nI i).toNatClampNeg (jmin (1000 : Int32) ((((wm i) - (((wm i) - (4 : Int32)) / (16 : Int32))) + (((wm (i - 1)) - (wm i)) / (8 : Int32))) + (((wm (i + 1)) - (wm i)) / (8 : Int32)))))))) hz
          refine lv_iinc (v := nI (i + 1)) (lv' := [(2, .int (nI (i + 1))), (4, .int ((((wm i) - (((wm i) - (4 : Int32)) / (16 : Int32))) + (((wm (i - 1)) - (wm i)) / (8 : Int32))) + (((wm (i + 1)) - (wm i)) / (8 : Int32)))), (3, .int (wm i)), (0, .ref ao), (1, .ref aw)]) hx hb dX1_spreadWarmth_118 hl (k := 4) rfl (nI_1 i) (by decide) rfl (fun ls hl => ?_)
          refine lv_goto (tgt := 7) hx hb dX1_spreadWarmth_121 (by decide) ?_
          have ew : (ws.set pz (az, .inl (cI, 12, .inl (cSpr cur wm sp i)))).set pz (az, .inl (cI, 12, .inl (upd (cSpr cur wm sp i) (nI i).toNatClampNeg (jmin (1000 : Int32) ((((wm i) - (((wm i) - (4 : Int32)) / (16 : Int32))) + (((wm (i - 1)) - (wm i)) / (8 : Int32))) + (((wm (i + 1)) - (wm i)) / (8 : Int32))))))) = ws.set pz (az, .inl (cI, 12, .inl (cSpr cur wm sp (i + 1)))) := by subst h38; rw [nI_clamp (show i < 2 ^ 31 by omega), List.set_set, ← cSpr_s]; simp [cV4, cV3, cV2, cV1, c10, c19, (eq_true c41), c63, c86]
          have hP : va_P G vwCl ((ws.set pz (az, .inl (cI, 12, .inl (cSpr cur wm sp i)))).set pz (az, .inl (cI, 12, .inl (upd (cSpr cur wm sp i) (nI i).toNatClampNeg (jmin (1000 : Int32) ((((wm i) - (((wm i) - (4 : Int32)) / (16 : Int32))) + (((wm (i - 1)) - (wm i)) / (8 : Int32))) + (((wm (i + 1)) - (wm i)) / (8 : Int32)))))))) H := hP
          have hD : va_D A ((ws.set pz (az, .inl (cI, 12, .inl (cSpr cur wm sp i)))).set pz (az, .inl (cI, 12, .inl (upd (cSpr cur wm sp i) (nI i).toNatClampNeg (jmin (1000 : Int32) ((((wm i) - (((wm i) - (4 : Int32)) / (16 : Int32))) + (((wm (i - 1)) - (wm i)) / (8 : Int32))) + (((wm (i + 1)) - (wm i)) / (8 : Int32)))))))) := hD
          rw [ew] at hP hD
          exact ihi H _ ls hlti (trivial) hP hD hS (lv_sub hl [3, 4, 0] rfl)
    · refine lv_iload hx hb dX1_spreadWarmth_44 (lv_at hl 0 rfl) ?_
      refine lv_aload_n hx hb dX1_spreadWarmth_46 rfl (lv_at hl 2 rfl) ?_
      refine va_get (D := G) (ci := 2) (v := .int cur) (C := RX1) (T := TX1) (N := 7) hx hb hts hiX1 hown hK hP po ho rfl 2 (by decide) (hts (.fieldLink RX1 33 "Vortexpin$Coil" "current" "I") (List.mem_of_getElem? (i := 3) rfl)) (fun _ h9 => h9) rfl dX1_spreadWarmth_47 ?_
      refine lv_aload_n hx hb dX1_spreadWarmth_50 rfl (lv_at hl 2 rfl) ?_
      refine va_get (D := G) (ci := 2) (v := .int cur) (C := RX1) (T := TX1) (N := 7) hx hb hts hiX1 hown hK hP po ho rfl 2 (by decide) (hts (.fieldLink RX1 33 "Vortexpin$Coil" "current" "I") (List.mem_of_getElem? (i := 3) rfl)) (fun _ h9 => h9) rfl dX1_spreadWarmth_51 ?_
      refine lv_imul hx hb dX1_spreadWarmth_54 ?_
      refine lv_sipush (v := 2000) hx hb dX1_spreadWarmth_55 (by decide) ?_
      refine lv_idiv hx hb dX1_spreadWarmth_58 (by decide) ?_
      refine lv_iadd hx hb dX1_spreadWarmth_59 ?_
      refine lv_istore (lv' := [(4, .int (((wm i) - (((wm i) - (4 : Int32)) / (16 : Int32))) + ((cur * cur) / (2000 : Int32)))), (3, .int (wm i)), (0, .ref ao), (1, .ref aw), (2, .int (nI i))]) hx hb dX1_spreadWarmth_60 hl (by decide) rfl (fun ls hl => ?_)
      refine lv_iload_n hx hb dX1_spreadWarmth_62 rfl (lv_at hl 4 rfl) ?_
      refine lv_if_le (tgt := 81) hx hb dX1_spreadWarmth_63 (by decide) (fun c63 => ?_) (fun c63 => ?_)
      · refine lv_iload_n hx hb dX1_spreadWarmth_81 rfl (lv_at hl 4 rfl) ?_
        refine lv_iconst (v := 1) hx hb dX1_spreadWarmth_82 (by decide) ?_
        refine lv_iadd hx hb dX1_spreadWarmth_83 ?_
        refine lv_aload_n hx hb dX1_spreadWarmth_84 rfl (lv_at hl 3 rfl) ?_
        refine va_alen hx hb hK hP pw 0 hw htI (v := (12 : Int32)) rfl dX1_spreadWarmth_85 ?_
        refine lv_icmp_ge (tgt := 104) hx hb dX1_spreadWarmth_86 (by decide) (fun c86 => ?_) (fun c86 => ?_)
        · refine lv_aload_n hx hb dX1_spreadWarmth_104 rfl (lv_at hl 2 rfl) ?_
          refine va_get (D := G) (ci := 2) (v := .ref az) (C := RX1) (T := TX1) (N := 7) hx hb hts hiX1 hown hK hP po ho rfl 1 (by decide) (hts (.fieldLink RX1 13 "Vortexpin$Coil" "spare" "[I") (List.mem_of_getElem? (i := 2) rfl)) (fun _ h9 => h9) rfl dX1_spreadWarmth_105 ?_
          refine lv_iload_n hx hb dX1_spreadWarmth_108 rfl (lv_at hl 4 rfl) ?_
          refine lv_sipush (v := 1000) hx hb dX1_spreadWarmth_109 (by decide) ?_
          refine lv_iload hx hb dX1_spreadWarmth_112 (lv_at hl 0 rfl) ?_
          refine va_mmin hx hb (hml.trans hl.1.symm) hown (hts (.methodLink RX1 52 Lib.Math.min.name) (List.mem_of_getElem? (i := 4) rfl)) (hts (.static Lib.Math.min.name) (List.mem_of_getElem? (i := 5) rfl)) (hts (.initialized "java/lang/Math") (List.mem_of_getElem? (i := 6) rfl)) (hts (.code Lib.Math.min.name Lib.Math.min.code 2 (some .int)) (List.mem_of_getElem? (i := 7) rfl)) (Nat.le_of_ble_eq_true rfl) (Nat.le_of_ble_eq_true rfl) (Nat.le_of_ble_eq_true rfl) (Nat.le_of_ble_eq_true rfl) dX1_spreadWarmth_114 ?_
          refine fold_min ?_
          refine va_iast hx hb hK hP hD hS pz 0 hz htI (by first | exact vp_in_nI (by omega) (by omega) | assumption) dX1_spreadWarmth_117 (fun H locs hP hD hS => ?_)
          have ho := va_gs (k := pz) (e := (az, .inl (cI, 12, .inl (upd (cSpr cur wm sp i) (nI i).toNatClampNeg (jmin (1000 : Int32) (((wm i) - (((wm i) - (4 : Int32)) / (16 : Int32))) + ((cur * cur) / (2000 : Int32)))))))) (noz) ho
          have hw := va_gs (k := pz) (e := (az, .inl (cI, 12, .inl (upd (cSpr cur wm sp i) (nI i).toNatClampNeg (jmin (1000 : Int32) (((wm i) - (((wm i) - (4 : Int32)) / (16 : Int32))) + ((cur * cur) / (2000 : Int32)))))))) (nwz) hw
          have hz := va_ge (e := (az, .inl (cI, 12, .inl (upd (cSpr cur wm sp i) (nI i).toNatClampNeg (jmin (1000 : Int32) (((wm i) - (((wm i) - (4 : Int32)) / (16 : Int32))) + ((cur * cur) / (2000 : Int32)))))))) hz
          refine lv_iinc (v := nI (i + 1)) (lv' := [(2, .int (nI (i + 1))), (4, .int (((wm i) - (((wm i) - (4 : Int32)) / (16 : Int32))) + ((cur * cur) / (2000 : Int32)))), (3, .int (wm i)), (0, .ref ao), (1, .ref aw)]) hx hb dX1_spreadWarmth_118 hl (k := 4) rfl (nI_1 i) (by decide) rfl (fun ls hl => ?_)
          refine lv_goto (tgt := 7) hx hb dX1_spreadWarmth_121 (by decide) ?_
          have ew : (ws.set pz (az, .inl (cI, 12, .inl (cSpr cur wm sp i)))).set pz (az, .inl (cI, 12, .inl (upd (cSpr cur wm sp i) (nI i).toNatClampNeg (jmin (1000 : Int32) (((wm i) - (((wm i) - (4 : Int32)) / (16 : Int32))) + ((cur * cur) / (2000 : Int32))))))) = ws.set pz (az, .inl (cI, 12, .inl (cSpr cur wm sp (i + 1)))) := by subst h38; rw [nI_clamp (show i < 2 ^ 31 by omega), List.set_set, ← cSpr_s]; simp [cV4, cV3, cV2, cV1, c10, c19, c41, c63, c86]
          have hP : va_P G vwCl ((ws.set pz (az, .inl (cI, 12, .inl (cSpr cur wm sp i)))).set pz (az, .inl (cI, 12, .inl (upd (cSpr cur wm sp i) (nI i).toNatClampNeg (jmin (1000 : Int32) (((wm i) - (((wm i) - (4 : Int32)) / (16 : Int32))) + ((cur * cur) / (2000 : Int32)))))))) H := hP
          have hD : va_D A ((ws.set pz (az, .inl (cI, 12, .inl (cSpr cur wm sp i)))).set pz (az, .inl (cI, 12, .inl (upd (cSpr cur wm sp i) (nI i).toNatClampNeg (jmin (1000 : Int32) (((wm i) - (((wm i) - (4 : Int32)) / (16 : Int32))) + ((cur * cur) / (2000 : Int32)))))))) := hD
          rw [ew] at hP hD
          exact ihi H _ ls hlti (trivial) hP hD hS (lv_sub hl [3, 4, 0] rfl)
        · refine lv_iload hx hb dX1_spreadWarmth_89 (lv_at hl 0 rfl) ?_
          refine lv_aload_n hx hb dX1_spreadWarmth_91 rfl (lv_at hl 3 rfl) ?_
          refine lv_iload_n hx hb dX1_spreadWarmth_92 rfl (lv_at hl 4 rfl) ?_
          refine lv_iconst (v := 1) hx hb dX1_spreadWarmth_93 (by decide) ?_
          refine lv_iadd hx hb dX1_spreadWarmth_94 ?_
          refine va_iald hx hb hK hP pw 0 hw htI (by rw [nI_1] at c86 ⊢; exact vp_in_nI (Nat.lt_of_not_le (mt (nI_leI (a := 12) (by omega) (by omega)).mpr c86)) (by omega)) dX1_spreadWarmth_95 ?_
          refine rd_i (j := i + 1) (by rw [nI_1]; exact nI_clamp (by omega)) ?_
          refine lv_iload_n hx hb dX1_spreadWarmth_96 rfl (lv_at hl 1 rfl) ?_
          refine lv_isub hx hb dX1_spreadWarmth_97 ?_
          refine lv_bipush (v := 8) hx hb dX1_spreadWarmth_98 (by decide) ?_
          refine lv_idiv hx hb dX1_spreadWarmth_100 (by decide) ?_
          refine lv_iadd hx hb dX1_spreadWarmth_101 ?_
          refine lv_istore (lv' := [(4, .int ((((wm i) - (((wm i) - (4 : Int32)) / (16 : Int32))) + ((cur * cur) / (2000 : Int32))) + (((wm (i + 1)) - (wm i)) / (8 : Int32)))), (3, .int (wm i)), (0, .ref ao), (1, .ref aw), (2, .int (nI i))]) hx hb dX1_spreadWarmth_102 hl (by decide) rfl (fun ls hl => ?_)
          refine lv_aload_n hx hb dX1_spreadWarmth_104 rfl (lv_at hl 2 rfl) ?_
          refine va_get (D := G) (ci := 2) (v := .ref az) (C := RX1) (T := TX1) (N := 7) hx hb hts hiX1 hown hK hP po ho rfl 1 (by decide) (hts (.fieldLink RX1 13 "Vortexpin$Coil" "spare" "[I") (List.mem_of_getElem? (i := 2) rfl)) (fun _ h9 => h9) rfl dX1_spreadWarmth_105 ?_
          refine lv_iload_n hx hb dX1_spreadWarmth_108 rfl (lv_at hl 4 rfl) ?_
          refine lv_sipush (v := 1000) hx hb dX1_spreadWarmth_109 (by decide) ?_
          refine lv_iload hx hb dX1_spreadWarmth_112 (lv_at hl 0 rfl) ?_
          refine va_mmin hx hb (hml.trans hl.1.symm) hown (hts (.methodLink RX1 52 Lib.Math.min.name) (List.mem_of_getElem? (i := 4) rfl)) (hts (.static Lib.Math.min.name) (List.mem_of_getElem? (i := 5) rfl)) (hts (.initialized "java/lang/Math") (List.mem_of_getElem? (i := 6) rfl)) (hts (.code Lib.Math.min.name Lib.Math.min.code 2 (some .int)) (List.mem_of_getElem? (i := 7) rfl)) (Nat.le_of_ble_eq_true rfl) (Nat.le_of_ble_eq_true rfl) (Nat.le_of_ble_eq_true rfl) (Nat.le_of_ble_eq_true rfl) dX1_spreadWarmth_114 ?_
          refine fold_min ?_
          refine va_iast hx hb hK hP hD hS pz 0 hz htI (by first | exact vp_in_nI (by omega) (by omega) | assumption) dX1_spreadWarmth_117 (fun H locs hP hD hS => ?_)
          have ho := va_gs (k := pz) (e := (az, .inl (cI, 12, .inl (upd (cSpr cur wm sp i) (nI i).toNatClampNeg (jmin (1000 : Int32) ((((wm i) - (((wm i) - (4 : Int32)) / (16 : Int32))) + ((cur * cur) / (2000 : Int32))) + (((wm (i + 1)) - (wm i)) / (8 : Int32)))))))) (noz) ho
          have hw := va_gs (k := pz) (e := (az, .inl (cI, 12, .inl (upd (cSpr cur wm sp i) (nI i).toNatClampNeg (jmin (1000 : Int32) ((((wm i) - (((wm i) - (4 : Int32)) / (16 : Int32))) + ((cur * cur) / (2000 : Int32))) + (((wm (i + 1)) - (wm i)) / (8 : Int32)))))))) (nwz) hw
          have hz := va_ge (e := (az, .inl (cI, 12, .inl (upd (cSpr cur wm sp i) (nI i).toNatClampNeg (jmin (1000 : Int32) ((((wm i) - (((wm i) - (4 : Int32)) / (16 : Int32))) + ((cur * cur) / (2000 : Int32))) + (((wm (i + 1)) - (wm i)) / (8 : Int32)))))))) hz
          refine lv_iinc (v := nI (i + 1)) (lv' := [(2, .int (nI (i + 1))), (4, .int ((((wm i) - (((wm i) - (4 : Int32)) / (16 : Int32))) + ((cur * cur) / (2000 : Int32))) + (((wm (i + 1)) - (wm i)) / (8 : Int32)))), (3, .int (wm i)), (0, .ref ao), (1, .ref aw)]) hx hb dX1_spreadWarmth_118 hl (k := 4) rfl (nI_1 i) (by decide) rfl (fun ls hl => ?_)
          refine lv_goto (tgt := 7) hx hb dX1_spreadWarmth_121 (by decide) ?_
          have ew : (ws.set pz (az, .inl (cI, 12, .inl (cSpr cur wm sp i)))).set pz (az, .inl (cI, 12, .inl (upd (cSpr cur wm sp i) (nI i).toNatClampNeg (jmin (1000 : Int32) ((((wm i) - (((wm i) - (4 : Int32)) / (16 : Int32))) + ((cur * cur) / (2000 : Int32))) + (((wm (i + 1)) - (wm i)) / (8 : Int32))))))) = ws.set pz (az, .inl (cI, 12, .inl (cSpr cur wm sp (i + 1)))) := by subst h38; rw [nI_clamp (show i < 2 ^ 31 by omega), List.set_set, ← cSpr_s]; simp [cV4, cV3, cV2, cV1, c10, c19, c41, c63, c86]
          have hP : va_P G vwCl ((ws.set pz (az, .inl (cI, 12, .inl (cSpr cur wm sp i)))).set pz (az, .inl (cI, 12, .inl (upd (cSpr cur wm sp i) (nI i).toNatClampNeg (jmin (1000 : Int32) ((((wm i) - (((wm i) - (4 : Int32)) / (16 : Int32))) + ((cur * cur) / (2000 : Int32))) + (((wm (i + 1)) - (wm i)) / (8 : Int32)))))))) H := hP
          have hD : va_D A ((ws.set pz (az, .inl (cI, 12, .inl (cSpr cur wm sp i)))).set pz (az, .inl (cI, 12, .inl (upd (cSpr cur wm sp i) (nI i).toNatClampNeg (jmin (1000 : Int32) ((((wm i) - (((wm i) - (4 : Int32)) / (16 : Int32))) + ((cur * cur) / (2000 : Int32))) + (((wm (i + 1)) - (wm i)) / (8 : Int32)))))))) := hD
          rw [ew] at hP hD
          exact ihi H _ ls hlti (trivial) hP hD hS (lv_sub hl [3, 4, 0] rfl)
      · refine lv_iload hx hb dX1_spreadWarmth_66 (lv_at hl 0 rfl) ?_
        refine lv_aload_n hx hb dX1_spreadWarmth_68 rfl (lv_at hl 3 rfl) ?_
        refine lv_iload_n hx hb dX1_spreadWarmth_69 rfl (lv_at hl 4 rfl) ?_
        refine lv_iconst (v := 1) hx hb dX1_spreadWarmth_70 (by decide) ?_
        refine lv_isub hx hb dX1_spreadWarmth_71 ?_
        refine va_iald hx hb hK hP pw 0 hw htI (by rw [nI_m1' (nI_pos0 c63)]; exact vp_in_nI (by omega) (by omega)) dX1_spreadWarmth_72 ?_
        refine rd_i (j := i - 1) (by rw [nI_m1' (nI_pos0 c63)]; exact nI_clamp (by omega)) ?_
        refine lv_iload_n hx hb dX1_spreadWarmth_73 rfl (lv_at hl 1 rfl) ?_
        refine lv_isub hx hb dX1_spreadWarmth_74 ?_
        refine lv_bipush (v := 8) hx hb dX1_spreadWarmth_75 (by decide) ?_
        refine lv_idiv hx hb dX1_spreadWarmth_77 (by decide) ?_
        refine lv_iadd hx hb dX1_spreadWarmth_78 ?_
        refine lv_istore (lv' := [(4, .int ((((wm i) - (((wm i) - (4 : Int32)) / (16 : Int32))) + ((cur * cur) / (2000 : Int32))) + (((wm (i - 1)) - (wm i)) / (8 : Int32)))), (3, .int (wm i)), (0, .ref ao), (1, .ref aw), (2, .int (nI i))]) hx hb dX1_spreadWarmth_79 hl (by decide) rfl (fun ls hl => ?_)
        refine lv_iload_n hx hb dX1_spreadWarmth_81 rfl (lv_at hl 4 rfl) ?_
        refine lv_iconst (v := 1) hx hb dX1_spreadWarmth_82 (by decide) ?_
        refine lv_iadd hx hb dX1_spreadWarmth_83 ?_
        refine lv_aload_n hx hb dX1_spreadWarmth_84 rfl (lv_at hl 3 rfl) ?_
        refine va_alen hx hb hK hP pw 0 hw htI (v := (12 : Int32)) rfl dX1_spreadWarmth_85 ?_
        refine lv_icmp_ge (tgt := 104) hx hb dX1_spreadWarmth_86 (by decide) (fun c86 => ?_) (fun c86 => ?_)
        · refine lv_aload_n hx hb dX1_spreadWarmth_104 rfl (lv_at hl 2 rfl) ?_
          refine va_get (D := G) (ci := 2) (v := .ref az) (C := RX1) (T := TX1) (N := 7) hx hb hts hiX1 hown hK hP po ho rfl 1 (by decide) (hts (.fieldLink RX1 13 "Vortexpin$Coil" "spare" "[I") (List.mem_of_getElem? (i := 2) rfl)) (fun _ h9 => h9) rfl dX1_spreadWarmth_105 ?_
          refine lv_iload_n hx hb dX1_spreadWarmth_108 rfl (lv_at hl 4 rfl) ?_
          refine lv_sipush (v := 1000) hx hb dX1_spreadWarmth_109 (by decide) ?_
          refine lv_iload hx hb dX1_spreadWarmth_112 (lv_at hl 0 rfl) ?_
          refine va_mmin hx hb (hml.trans hl.1.symm) hown (hts (.methodLink RX1 52 Lib.Math.min.name) (List.mem_of_getElem? (i := 4) rfl)) (hts (.static Lib.Math.min.name) (List.mem_of_getElem? (i := 5) rfl)) (hts (.initialized "java/lang/Math") (List.mem_of_getElem? (i := 6) rfl)) (hts (.code Lib.Math.min.name Lib.Math.min.code 2 (some .int)) (List.mem_of_getElem? (i := 7) rfl)) (Nat.le_of_ble_eq_true rfl) (Nat.le_of_ble_eq_true rfl) (Nat.le_of_ble_eq_true rfl) (Nat.le_of_ble_eq_true rfl) dX1_spreadWarmth_114 ?_
          refine fold_min ?_
          refine va_iast hx hb hK hP hD hS pz 0 hz htI (by first | exact vp_in_nI (by omega) (by omega) | assumption) dX1_spreadWarmth_117 (fun H locs hP hD hS => ?_)
          have ho := va_gs (k := pz) (e := (az, .inl (cI, 12, .inl (upd (cSpr cur wm sp i) (nI i).toNatClampNeg (jmin (1000 : Int32) ((((wm i) - (((wm i) - (4 : Int32)) / (16 : Int32))) + ((cur * cur) / (2000 : Int32))) + (((wm (i - 1)) - (wm i)) / (8 : Int32)))))))) (noz) ho
          have hw := va_gs (k := pz) (e := (az, .inl (cI, 12, .inl (upd (cSpr cur wm sp i) (nI i).toNatClampNeg (jmin (1000 : Int32) ((((wm i) - (((wm i) - (4 : Int32)) / (16 : Int32))) + ((cur * cur) / (2000 : Int32))) + (((wm (i - 1)) - (wm i)) / (8 : Int32)))))))) (nwz) hw
          have hz := va_ge (e := (az, .inl (cI, 12, .inl (upd (cSpr cur wm sp i) (nI i).toNatClampNeg (jmin (1000 : Int32) ((((wm i) - (((wm i) - (4 : Int32)) / (16 : Int32))) + ((cur * cur) / (2000 : Int32))) + (((wm (i - 1)) - (wm i)) / (8 : Int32)))))))) hz
          refine lv_iinc (v := nI (i + 1)) (lv' := [(2, .int (nI (i + 1))), (4, .int ((((wm i) - (((wm i) - (4 : Int32)) / (16 : Int32))) + ((cur * cur) / (2000 : Int32))) + (((wm (i - 1)) - (wm i)) / (8 : Int32)))), (3, .int (wm i)), (0, .ref ao), (1, .ref aw)]) hx hb dX1_spreadWarmth_118 hl (k := 4) rfl (nI_1 i) (by decide) rfl (fun ls hl => ?_)
          refine lv_goto (tgt := 7) hx hb dX1_spreadWarmth_121 (by decide) ?_
          have ew : (ws.set pz (az, .inl (cI, 12, .inl (cSpr cur wm sp i)))).set pz (az, .inl (cI, 12, .inl (upd (cSpr cur wm sp i) (nI i).toNatClampNeg (jmin (1000 : Int32) ((((wm i) - (((wm i) - (4 : Int32)) / (16 : Int32))) + ((cur * cur) / (2000 : Int32))) + (((wm (i - 1)) - (wm i)) / (8 : Int32))))))) = ws.set pz (az, .inl (cI, 12, .inl (cSpr cur wm sp (i + 1)))) := by subst h38; rw [nI_clamp (show i < 2 ^ 31 by omega), List.set_set, ← cSpr_s]; simp [cV4, cV3, cV2, cV1, c10, c19, c41, c63, c86]
          have hP : va_P G vwCl ((ws.set pz (az, .inl (cI, 12, .inl (cSpr cur wm sp i)))).set pz (az, .inl (cI, 12, .inl (upd (cSpr cur wm sp i) (nI i).toNatClampNeg (jmin (1000 : Int32) ((((wm i) - (((wm i) - (4 : Int32)) / (16 : Int32))) + ((cur * cur) / (2000 : Int32))) + (((wm (i - 1)) - (wm i)) / (8 : Int32)))))))) H := hP
          have hD : va_D A ((ws.set pz (az, .inl (cI, 12, .inl (cSpr cur wm sp i)))).set pz (az, .inl (cI, 12, .inl (upd (cSpr cur wm sp i) (nI i).toNatClampNeg (jmin (1000 : Int32) ((((wm i) - (((wm i) - (4 : Int32)) / (16 : Int32))) + ((cur * cur) / (2000 : Int32))) + (((wm (i - 1)) - (wm i)) / (8 : Int32)))))))) := hD
          rw [ew] at hP hD
          exact ihi H _ ls hlti (trivial) hP hD hS (lv_sub hl [3, 4, 0] rfl)
        · refine lv_iload hx hb dX1_spreadWarmth_89 (lv_at hl 0 rfl) ?_
          refine lv_aload_n hx hb dX1_spreadWarmth_91 rfl (lv_at hl 3 rfl) ?_
          refine lv_iload_n hx hb dX1_spreadWarmth_92 rfl (lv_at hl 4 rfl) ?_
          refine lv_iconst (v := 1) hx hb dX1_spreadWarmth_93 (by decide) ?_
          refine lv_iadd hx hb dX1_spreadWarmth_94 ?_
          refine va_iald hx hb hK hP pw 0 hw htI (by rw [nI_1] at c86 ⊢; exact vp_in_nI (Nat.lt_of_not_le (mt (nI_leI (a := 12) (by omega) (by omega)).mpr c86)) (by omega)) dX1_spreadWarmth_95 ?_
          refine rd_i (j := i + 1) (by rw [nI_1]; exact nI_clamp (by omega)) ?_
          refine lv_iload_n hx hb dX1_spreadWarmth_96 rfl (lv_at hl 1 rfl) ?_
          refine lv_isub hx hb dX1_spreadWarmth_97 ?_
          refine lv_bipush (v := 8) hx hb dX1_spreadWarmth_98 (by decide) ?_
          refine lv_idiv hx hb dX1_spreadWarmth_100 (by decide) ?_
          refine lv_iadd hx hb dX1_spreadWarmth_101 ?_
          refine lv_istore (lv' := [(4, .int (((((wm i) - (((wm i) - (4 : Int32)) / (16 : Int32))) + ((cur * cur) / (2000 : Int32))) + (((wm (i - 1)) - (wm i)) / (8 : Int32))) + (((wm (i + 1)) - (wm i)) / (8 : Int32)))), (3, .int (wm i)), (0, .ref ao), (1, .ref aw), (2, .int (nI i))]) hx hb dX1_spreadWarmth_102 hl (by decide) rfl (fun ls hl => ?_)
          refine lv_aload_n hx hb dX1_spreadWarmth_104 rfl (lv_at hl 2 rfl) ?_
          refine va_get (D := G) (ci := 2) (v := .ref az) (C := RX1) (T := TX1) (N := 7) hx hb hts hiX1 hown hK hP po ho rfl 1 (by decide) (hts (.fieldLink RX1 13 "Vortexpin$Coil" "spare" "[I") (List.mem_of_getElem? (i := 2) rfl)) (fun _ h9 => h9) rfl dX1_spreadWarmth_105 ?_
          refine lv_iload_n hx hb dX1_spreadWarmth_108 rfl (lv_at hl 4 rfl) ?_
          refine lv_sipush (v := 1000) hx hb dX1_spreadWarmth_109 (by decide) ?_
          refine lv_iload hx hb dX1_spreadWarmth_112 (lv_at hl 0 rfl) ?_
          refine va_mmin hx hb (hml.trans hl.1.symm) hown (hts (.methodLink RX1 52 Lib.Math.min.name) (List.mem_of_getElem? (i := 4) rfl)) (hts (.static Lib.Math.min.name) (List.mem_of_getElem? (i := 5) rfl)) (hts (.initialized "java/lang/Math") (List.mem_of_getElem? (i := 6) rfl)) (hts (.code Lib.Math.min.name Lib.Math.min.code 2 (some .int)) (List.mem_of_getElem? (i := 7) rfl)) (Nat.le_of_ble_eq_true rfl) (Nat.le_of_ble_eq_true rfl) (Nat.le_of_ble_eq_true rfl) (Nat.le_of_ble_eq_true rfl) dX1_spreadWarmth_114 ?_
          refine fold_min ?_
          refine va_iast hx hb hK hP hD hS pz 0 hz htI (by first | exact vp_in_nI (by omega) (by omega) | assumption) dX1_spreadWarmth_117 (fun H locs hP hD hS => ?_)
          have ho := va_gs (k := pz) (e := (az, .inl (cI, 12, .inl (upd (cSpr cur wm sp i) (nI i).toNatClampNeg (jmin (1000 : Int32) (((((wm i) - (((wm i) - (4 : Int32)) / (16 : Int32))) + ((cur * cur) / (2000 : Int32))) + (((wm (i - 1)) - (wm i)) / (8 : Int32))) + (((wm (i + 1)) - (wm i)) / (8 : Int32)))))))) (noz) ho
          have hw := va_gs (k := pz) (e := (az, .inl (cI, 12, .inl (upd (cSpr cur wm sp i) (nI i).toNatClampNeg (jmin (1000 : Int32) (((((wm i) - (((wm i) - (4 : Int32)) / (16 : Int32))) + ((cur * cur) / (2000 : Int32))) + (((wm (i - 1)) - (wm i)) / (8 : Int32))) + (((wm (i + 1)) - (wm i)) / (8 : Int32)))))))) (nwz) hw
          have hz := va_ge (e := (az, .inl (cI, 12, .inl (upd (cSpr cur wm sp i) (nI i).toNatClampNeg (jmin (1000 : Int32) (((((wm i) - (((wm i) - (4 : Int32)) / (16 : Int32))) + ((cur * cur) / (2000 : Int32))) + (((wm (i - 1)) - (wm i)) / (8 : Int32))) + (((wm (i + 1)) - (wm i)) / (8 : Int32)))))))) hz
          refine lv_iinc (v := nI (i + 1)) (lv' := [(2, .int (nI (i + 1))), (4, .int (((((wm i) - (((wm i) - (4 : Int32)) / (16 : Int32))) + ((cur * cur) / (2000 : Int32))) + (((wm (i - 1)) - (wm i)) / (8 : Int32))) + (((wm (i + 1)) - (wm i)) / (8 : Int32)))), (3, .int (wm i)), (0, .ref ao), (1, .ref aw)]) hx hb dX1_spreadWarmth_118 hl (k := 4) rfl (nI_1 i) (by decide) rfl (fun ls hl => ?_)
          refine lv_goto (tgt := 7) hx hb dX1_spreadWarmth_121 (by decide) ?_
          have ew : (ws.set pz (az, .inl (cI, 12, .inl (cSpr cur wm sp i)))).set pz (az, .inl (cI, 12, .inl (upd (cSpr cur wm sp i) (nI i).toNatClampNeg (jmin (1000 : Int32) (((((wm i) - (((wm i) - (4 : Int32)) / (16 : Int32))) + ((cur * cur) / (2000 : Int32))) + (((wm (i - 1)) - (wm i)) / (8 : Int32))) + (((wm (i + 1)) - (wm i)) / (8 : Int32))))))) = ws.set pz (az, .inl (cI, 12, .inl (cSpr cur wm sp (i + 1)))) := by subst h38; rw [nI_clamp (show i < 2 ^ 31 by omega), List.set_set, ← cSpr_s]; simp [cV4, cV3, cV2, cV1, c10, c19, c41, c63, c86]
          have hP : va_P G vwCl ((ws.set pz (az, .inl (cI, 12, .inl (cSpr cur wm sp i)))).set pz (az, .inl (cI, 12, .inl (upd (cSpr cur wm sp i) (nI i).toNatClampNeg (jmin (1000 : Int32) (((((wm i) - (((wm i) - (4 : Int32)) / (16 : Int32))) + ((cur * cur) / (2000 : Int32))) + (((wm (i - 1)) - (wm i)) / (8 : Int32))) + (((wm (i + 1)) - (wm i)) / (8 : Int32)))))))) H := hP
          have hD : va_D A ((ws.set pz (az, .inl (cI, 12, .inl (cSpr cur wm sp i)))).set pz (az, .inl (cI, 12, .inl (upd (cSpr cur wm sp i) (nI i).toNatClampNeg (jmin (1000 : Int32) (((((wm i) - (((wm i) - (4 : Int32)) / (16 : Int32))) + ((cur * cur) / (2000 : Int32))) + (((wm (i - 1)) - (wm i)) / (8 : Int32))) + (((wm (i + 1)) - (wm i)) / (8 : Int32)))))))) := hD
          rw [ew] at hP hD
          exact ihi H _ ls hlti (trivial) hP hD hS (lv_sub hl [3, 4, 0] rfl)
set_option maxHeartbeats 4000000 in
set_option maxRecDepth 100000 in
theorem metX1_watch (l : Launch) (G : va_G) (tys : List (ClassId × FieldType)) (cI : ClassId) (htI : tI tys cI) {A : Nat → Prop} (ws : va_W) {po pw pz ao aw az : Nat} {cur du ir : Int32} {wi dm : Int64} {wm sp : Nat → Int32} (ho : ws[po]? = some (ao, .inr (2, [.ref aw, .ref az, .int cur, .int du, .int ir, .long wi, .long dm]))) (hw : ws[pw]? = some (aw, .inl (cI, 12, .inl wm))) (hz : ws[pz]? = some (az, .inl (cI, 12, .inl sp))) (now : po ≠ pw) (noz : po ≠ pz) : Met l yX1_watch wsX1_watch ({ frames := 3, cells := 0, slots := 0, locals := 65 }) (pcM G tys ws A [.ref ao]) (qMv G (ws.set po (ao, .inr (2, [.ref aw, .ref az, .int cur, .int (if cIr cur ir wm < 3 then du else 1), .int (cIr cur ir wm), .long wi, .long dm]))) A) 0 0 A := by
  refine ofM (cc := cX1_watch) (maxL := 1) (ret := none) (by decide) rfl (Nat.le_of_ble_eq_true rfl) ?_
  intro p e s m below meth c ls hx hb hr hlocks hml hown hts hin hl hP hK hD hA hS
  have hown : s.vm.findClass RX1 = some m.cls := hown
  have hiX1 : ∀ w ∈ u_ws RX1 TX1 7, w ∈ wsX1_watch := fun _ h => List.mem_cons_of_mem _ (List.mem_append_right _ h)
  have hl : lv_has ls 1 [(0, .ref ao)] := hl
  refine lv_aload_n hx hb dX1_watch_0 rfl (lv_at hl 0 rfl) ?_
  refine lv_aload_n hx hb dX1_watch_1 rfl (lv_at hl 0 rfl) ?_
  refine vp_callSi (va_Run.run (va_runV (As := []) (rest := [.ref ao]) ⟨hx, hb, hml, hown, hts⟩ (metX1_doubt l G tys cI htI _ ho hw hz) (cwV 0 hts gX1_watch_X1_doubt rfl rfl rfl (by decide +kernel) ⟨Nat.le_of_ble_eq_true rfl, Nat.le_of_ble_eq_true rfl⟩) ⟨pcR_b, va_recv hK hP (ci := 2) (q0 := po) rfl ho, pcR_u hP hK⟩ rfl rfl hl.1 rfl (lv_room (Nat.le_of_ble_eq_true rfl)) dX1_watch_2 ⟨Nat.le_of_ble_eq_true rfl, Nat.le_of_ble_eq_true rfl⟩)) (fun r2 h2 => ?_)
  refine va_mabs hx hb (hml.trans hl.1.symm) hown (hts (.methodLink RX1 61 Lib.Math.abs.name) (List.mem_of_getElem? (i := 1) rfl)) (hts (.static Lib.Math.abs.name) (List.mem_of_getElem? (i := 2) rfl)) (hts (.initialized "java/lang/Math") (List.mem_of_getElem? (i := 3) rfl)) (hts (.code Lib.Math.abs.name Lib.Math.abs.code 1 (some .int)) (List.mem_of_getElem? (i := 4) rfl)) (Nat.le_of_ble_eq_true rfl) (Nat.le_of_ble_eq_true rfl) (Nat.le_of_ble_eq_true rfl) (Nat.le_of_ble_eq_true rfl) dX1_watch_5 ?_
  refine fold_abs ?_
  refine lv_iconst (v := 2) hx hb dX1_watch_8 (by decide) ?_
  refine lv_icmp_lt (tgt := 21) hx hb dX1_watch_9 (by decide) (fun c9 => ?_) (fun c9 => ?_)
  · refine lv_iconst (v := 0) hx hb dX1_watch_21 (by decide) ?_
    refine va_put (D := G) (ci := 2) (v := .int (0 : Int32)) (ty := .int) (C := RX1) (T := TX1) (N := 7) hx hb hts hiX1 tyX1 tyX1_ok nmX1 hown hK hP hD hS po ho rfl 4 (by decide) (hts (.fieldLink RX1 65 "Vortexpin$Coil" "doubtfulInRow" "I") (List.mem_of_getElem? (i := 5) rfl)) (fun _ h9 => h9) rfl (by decide +kernel) (rfl) (rfl) (Nat.le_of_ble_eq_true rfl) dX1_watch_22 (fun H locs hP hD hS => ?_)
    have hw := va_gs (k := po) (e := (ao, .inr (2, [.ref aw, .ref az, .int cur, .int du, .int (0 : Int32), .long wi, .long dm]))) (now.symm) hw
    have hz := va_gs (k := po) (e := (ao, .inr (2, [.ref aw, .ref az, .int cur, .int du, .int (0 : Int32), .long wi, .long dm]))) (noz.symm) hz
    have ho := va_ge (e := (ao, .inr (2, [.ref aw, .ref az, .int cur, .int du, .int (0 : Int32), .long wi, .long dm]))) ho
    refine lv_aload_n hx hb dX1_watch_25 rfl (lv_at hl 0 rfl) ?_
    refine va_get (D := G) (ci := 2) (v := .int (0 : Int32)) (C := RX1) (T := TX1) (N := 7) hx hb hts hiX1 hown hK hP po ho rfl 4 (by decide) (hts (.fieldLink RX1 65 "Vortexpin$Coil" "doubtfulInRow" "I") (List.mem_of_getElem? (i := 5) rfl)) (fun _ h9 => h9) rfl dX1_watch_26 ?_
    refine lv_iconst (v := 3) hx hb dX1_watch_29 (by decide) ?_
    refine lv_icmp_lt (tgt := 38) hx hb dX1_watch_30 (by decide) (fun c30 => ?_) (fun c30 => absurd (by decide) c30)
    have ew : (ws).set po (ao, .inr (2, [.ref aw, .ref az, .int cur, .int du, .int (0 : Int32), .long wi, .long dm])) = ws.set po (ao, .inr (2, [.ref aw, .ref az, .int cur, .int (if cIr cur ir wm < 3 then du else 1), .int (cIr cur ir wm), .long wi, .long dm])) := by subst h2; simp only [List.set_set, cIr, c9, c30, ↓reduceIte, not_true_eq_false, not_false_eq_true]
    exact W.vret hx hb hr (fun t ht hW => ⟨⟨(), rfl, trivial, by show va_P G vwCl _ t.heap; rw [ht]; rw [← ew]; exact hP⟩, hS.F ht⟩) hS.2.2 dX1_watch_38
  · refine lv_aload_n hx hb dX1_watch_12 rfl (lv_at hl 0 rfl) ?_
    refine va_get (D := G) (ci := 2) (v := .int ir) (C := RX1) (T := TX1) (N := 7) hx hb hts hiX1 hown hK hP po ho rfl 4 (by decide) (hts (.fieldLink RX1 65 "Vortexpin$Coil" "doubtfulInRow" "I") (List.mem_of_getElem? (i := 5) rfl)) (fun _ h9 => h9) rfl dX1_watch_13 ?_
    refine lv_iconst (v := 1) hx hb dX1_watch_16 (by decide) ?_
    refine lv_iadd hx hb dX1_watch_17 ?_
    refine lv_goto (tgt := 22) hx hb dX1_watch_18 (by decide) ?_
    refine va_put (D := G) (ci := 2) (v := .int (ir + (1 : Int32))) (ty := .int) (C := RX1) (T := TX1) (N := 7) hx hb hts hiX1 tyX1 tyX1_ok nmX1 hown hK hP hD hS po ho rfl 4 (by decide) (hts (.fieldLink RX1 65 "Vortexpin$Coil" "doubtfulInRow" "I") (List.mem_of_getElem? (i := 5) rfl)) (fun _ h9 => h9) rfl (by decide +kernel) (rfl) (rfl) (Nat.le_of_ble_eq_true rfl) dX1_watch_22 (fun H locs hP hD hS => ?_)
    have hw := va_gs (k := po) (e := (ao, .inr (2, [.ref aw, .ref az, .int cur, .int du, .int (ir + (1 : Int32)), .long wi, .long dm]))) (now.symm) hw
    have hz := va_gs (k := po) (e := (ao, .inr (2, [.ref aw, .ref az, .int cur, .int du, .int (ir + (1 : Int32)), .long wi, .long dm]))) (noz.symm) hz
    have ho := va_ge (e := (ao, .inr (2, [.ref aw, .ref az, .int cur, .int du, .int (ir + (1 : Int32)), .long wi, .long dm]))) ho
    refine lv_aload_n hx hb dX1_watch_25 rfl (lv_at hl 0 rfl) ?_
    refine va_get (D := G) (ci := 2) (v := .int (ir + (1 : Int32))) (C := RX1) (T := TX1) (N := 7) hx hb hts hiX1 hown hK hP po ho rfl 4 (by decide) (hts (.fieldLink RX1 65 "Vortexpin$Coil" "doubtfulInRow" "I") (List.mem_of_getElem? (i := 5) rfl)) (fun _ h9 => h9) rfl dX1_watch_26 ?_
    refine lv_iconst (v := 3) hx hb dX1_watch_29 (by decide) ?_
    refine lv_icmp_lt (tgt := 38) hx hb dX1_watch_30 (by decide) (fun c30 => ?_) (fun c30 => ?_)
    · have ew : (ws).set po (ao, .inr (2, [.ref aw, .ref az, .int cur, .int du, .int (ir + (1 : Int32)), .long wi, .long dm])) = ws.set po (ao, .inr (2, [.ref aw, .ref az, .int cur, .int (if cIr cur ir wm < 3 then du else 1), .int (cIr cur ir wm), .long wi, .long dm])) := by subst h2; simp only [List.set_set, cIr, c9, c30, ↓reduceIte, not_true_eq_false, not_false_eq_true]
      exact W.vret hx hb hr (fun t ht hW => ⟨⟨(), rfl, trivial, by show va_P G vwCl _ t.heap; rw [ht]; rw [← ew]; exact hP⟩, hS.F ht⟩) hS.2.2 dX1_watch_38
    · refine lv_aload_n hx hb dX1_watch_33 rfl (lv_at hl 0 rfl) ?_
      refine lv_iconst (v := 1) hx hb dX1_watch_34 (by decide) ?_
      refine va_put (D := G) (ci := 2) (v := .int (1 : Int32)) (ty := .boolean) (C := RX1) (T := TX1) (N := 7) hx hb hts hiX1 tyX1 tyX1_ok nmX1 hown hK hP hD hS po ho rfl 3 (by decide) (hts (.fieldLink RX1 16 "Vortexpin$Coil" "dumped" "Z") (List.mem_of_getElem? (i := 6) rfl)) (fun _ h9 => h9) rfl (by decide +kernel) (rfl) (rfl) (Nat.le_of_ble_eq_true rfl) dX1_watch_35 (fun H locs hP hD hS => ?_)
      have hw := va_gs (k := po) (e := (ao, .inr (2, [.ref aw, .ref az, .int cur, .int (1 : Int32), .int (ir + (1 : Int32)), .long wi, .long dm]))) (now.symm) hw
      have hz := va_gs (k := po) (e := (ao, .inr (2, [.ref aw, .ref az, .int cur, .int (1 : Int32), .int (ir + (1 : Int32)), .long wi, .long dm]))) (noz.symm) hz
      have ho := va_ge (e := (ao, .inr (2, [.ref aw, .ref az, .int cur, .int (1 : Int32), .int (ir + (1 : Int32)), .long wi, .long dm]))) ho
      have ew : ((ws).set po (ao, .inr (2, [.ref aw, .ref az, .int cur, .int du, .int (ir + (1 : Int32)), .long wi, .long dm]))).set po (ao, .inr (2, [.ref aw, .ref az, .int cur, .int (1 : Int32), .int (ir + (1 : Int32)), .long wi, .long dm])) = ws.set po (ao, .inr (2, [.ref aw, .ref az, .int cur, .int (if cIr cur ir wm < 3 then du else 1), .int (cIr cur ir wm), .long wi, .long dm])) := by subst h2; simp only [List.set_set, cIr, c9, c30, ↓reduceIte, not_true_eq_false, not_false_eq_true]
      exact W.vret hx hb hr (fun t ht hW => ⟨⟨(), rfl, trivial, by show va_P G vwCl _ t.heap; rw [ht]; rw [← ew]; exact hP⟩, hS.F ht⟩) hS.2.2 dX1_watch_38
set_option maxHeartbeats 4000000 in
set_option maxRecDepth 100000 in
theorem metX1_runPulse (l : Launch) (G : va_G) (tys : List (ClassId × FieldType)) (cI : ClassId) (htI : tI tys cI) {A : Nat → Prop} (ws : va_W) {po pw pz ao aw az : Nat} {cur du ir : Int32} {wi dm : Int64} {wm sp : Nat → Int32} (ho : ws[po]? = some (ao, .inr (2, [.ref aw, .ref az, .int cur, .int du, .int ir, .long wi, .long dm]))) (hw : ws[pw]? = some (aw, .inl (cI, 12, .inl wm))) (hz : ws[pz]? = some (az, .inl (cI, 12, .inl sp))) (now : po ≠ pw) (noz : po ≠ pz) (nwz : pw ≠ pz) : Met l yX1_runPulse wsX1_runPulse ({ frames := 4, cells := 0, slots := 0, locals := 85 }) (pcM G tys ws A [.ref ao]) (qMv G ((ws.set pz (az, .inl (cI, 12, .inl (cSpr (if du = 0 then cur else cCur cur) wm sp 12)))).set po (ao, .inr (2, [.ref az, .ref aw, .int (if du = 0 then cur else cCur cur), .int (if cIr (if du = 0 then cur else cCur cur) ir (cSpr (if du = 0 then cur else cCur cur) wm sp 12) < 3 then du else 1), .int (cIr (if du = 0 then cur else cCur cur) ir (cSpr (if du = 0 then cur else cCur cur) wm sp 12)), .long (if du = 0 then wi else wi + cWir cur wm), .long (if du = 0 then dm else dm + (cLost cur - cWir cur wm))]))) A) 0 0 A := by
  refine ofM (cc := cX1_runPulse) (maxL := 1) (ret := none) (by decide) rfl (Nat.le_of_ble_eq_true rfl) ?_
  intro p e s m below meth c ls hx hb hr hlocks hml hown hts hin hl hP hK hD hA hS
  have hown : s.vm.findClass RX1 = some m.cls := hown
  have hiX1 : ∀ w ∈ u_ws RX1 TX1 7, w ∈ wsX1_runPulse := fun _ h => List.mem_cons_of_mem _ (List.mem_append_right _ h)
  have hl : lv_has ls 1 [(0, .ref ao)] := hl
  refine lv_aload_n hx hb dX1_runPulse_0 rfl (lv_at hl 0 rfl) ?_
  refine va_get (D := G) (ci := 2) (v := .int du) (C := RX1) (T := TX1) (N := 7) hx hb hts hiX1 hown hK hP po ho rfl 3 (by decide) (hts (.fieldLink RX1 16 "Vortexpin$Coil" "dumped" "Z") (List.mem_of_getElem? (i := 1) rfl)) (fun _ h9 => h9) rfl dX1_runPulse_1 ?_
  refine lv_if_eq (tgt := 11) hx hb dX1_runPulse_4 (by decide) (fun c4 => ?_) (fun c4 => ?_)
  · refine lv_aload_n hx hb dX1_runPulse_11 rfl (lv_at hl 0 rfl) ?_
    refine va_callv (va_runV (As := []) (rest := []) ⟨hx, hb, hml, hown, hts⟩ (metX1_spreadWarmth l G tys cI htI _ ho hw hz now noz nwz) (cwV 0 hts gX1_runPulse_X1_spreadWarmth rfl rfl rfl (by decide +kernel) ⟨Nat.le_of_ble_eq_true rfl, Nat.le_of_ble_eq_true rfl⟩) ⟨pcM_b, va_recv hK hP (ci := 2) (q0 := po) rfl ho, pcM_u hP hK hD hS hA⟩ rfl rfl hl.1 rfl (lv_room (Nat.le_of_ble_eq_true rfl)) dX1_runPulse_12 ⟨Nat.le_of_ble_eq_true rfl, Nat.le_of_ble_eq_true rfl⟩) hS (fun q _ h => h) (fun q h => h) (fun u t H locs ht hvm hu hB hsz hk1 hS => ?_)
    rw [ht] at hB
    have hD := hD.set (e := .inl (cI, 12, .inl (cSpr cur wm sp 12))) hz
    have ho := va_gs (k := pz) (e := (az, .inl (cI, 12, .inl (cSpr cur wm sp 12)))) (noz) ho
    have hw := va_gs (k := pz) (e := (az, .inl (cI, 12, .inl (cSpr cur wm sp 12)))) (nwz) hw
    have hz := va_ge (e := (az, .inl (cI, 12, .inl (cSpr cur wm sp 12)))) hz
    have hD := hD.set (e := .inr (2, [.ref az, .ref aw, .int cur, .int du, .int ir, .long wi, .long dm])) ho
    have hw := va_gs (k := po) (e := (ao, .inr (2, [.ref az, .ref aw, .int cur, .int du, .int ir, .long wi, .long dm]))) (now.symm) hw
    have hz := va_gs (k := po) (e := (ao, .inr (2, [.ref az, .ref aw, .int cur, .int du, .int ir, .long wi, .long dm]))) (noz.symm) hz
    have ho := va_ge (e := (ao, .inr (2, [.ref az, .ref aw, .int cur, .int du, .int ir, .long wi, .long dm]))) ho
    have hP : va_P G vwCl (((ws).set pz (az, .inl (cI, 12, .inl (cSpr cur wm sp 12)))).set po (ao, .inr (2, [.ref az, .ref aw, .int cur, .int du, .int ir, .long wi, .long dm]))) H := hB
    have hD : va_D A (((ws).set pz (az, .inl (cI, 12, .inl (cSpr cur wm sp 12)))).set po (ao, .inr (2, [.ref az, .ref aw, .int cur, .int du, .int ir, .long wi, .long dm]))) := hD
    refine lv_aload_n hx hb dX1_runPulse_15 rfl (lv_at hl 0 rfl) ?_
    refine va_callv (va_runV (As := []) (rest := []) ⟨hx, hb, hml, hown, hts⟩ (metX1_watch l G tys cI htI _ ho hz hw noz now) (cwV 0 hts gX1_runPulse_X1_watch rfl rfl rfl (by decide +kernel) ⟨Nat.le_of_ble_eq_true rfl, Nat.le_of_ble_eq_true rfl⟩) ⟨pcM_b, va_recv hK hP (ci := 2) (q0 := po) rfl ho, pcM_u hP hK hD hS hA⟩ rfl rfl hl.1 rfl (lv_room (Nat.le_of_ble_eq_true rfl)) dX1_runPulse_16 ⟨Nat.le_of_ble_eq_true rfl, Nat.le_of_ble_eq_true rfl⟩) hS (fun q _ h => h) (fun q h => h) (fun u t H locs ht hvm hu hB hsz hk1 hS => ?_)
    rw [ht] at hB
    have hD := hD.set (e := .inr (2, [.ref az, .ref aw, .int cur, .int (if cIr cur ir (cSpr cur wm sp 12) < 3 then du else 1), .int (cIr cur ir (cSpr cur wm sp 12)), .long wi, .long dm])) ho
    have hw := va_gs (k := po) (e := (ao, .inr (2, [.ref az, .ref aw, .int cur, .int (if cIr cur ir (cSpr cur wm sp 12) < 3 then du else 1), .int (cIr cur ir (cSpr cur wm sp 12)), .long wi, .long dm]))) (now.symm) hw
    have hz := va_gs (k := po) (e := (ao, .inr (2, [.ref az, .ref aw, .int cur, .int (if cIr cur ir (cSpr cur wm sp 12) < 3 then du else 1), .int (cIr cur ir (cSpr cur wm sp 12)), .long wi, .long dm]))) (noz.symm) hz
    have ho := va_ge (e := (ao, .inr (2, [.ref az, .ref aw, .int cur, .int (if cIr cur ir (cSpr cur wm sp 12) < 3 then du else 1), .int (cIr cur ir (cSpr cur wm sp 12)), .long wi, .long dm]))) ho
    have hP : va_P G vwCl ((((ws).set pz (az, .inl (cI, 12, .inl (cSpr cur wm sp 12)))).set po (ao, .inr (2, [.ref az, .ref aw, .int cur, .int du, .int ir, .long wi, .long dm]))).set po (ao, .inr (2, [.ref az, .ref aw, .int cur, .int (if cIr cur ir (cSpr cur wm sp 12) < 3 then du else 1), .int (cIr cur ir (cSpr cur wm sp 12)), .long wi, .long dm]))) H := hB
    have hD : va_D A ((((ws).set pz (az, .inl (cI, 12, .inl (cSpr cur wm sp 12)))).set po (ao, .inr (2, [.ref az, .ref aw, .int cur, .int du, .int ir, .long wi, .long dm]))).set po (ao, .inr (2, [.ref az, .ref aw, .int cur, .int (if cIr cur ir (cSpr cur wm sp 12) < 3 then du else 1), .int (cIr cur ir (cSpr cur wm sp 12)), .long wi, .long dm]))) := hD
    exact W.vret hx hb hr (fun t ht hW => ⟨⟨(), rfl, trivial, by show va_P G vwCl _ t.heap; rw [ht]; simp only [List.set_set] at hP; simpa [c4] using hP⟩, hS.F ht⟩) hS.2.2 dX1_runPulse_19
  · refine lv_aload_n hx hb dX1_runPulse_7 rfl (lv_at hl 0 rfl) ?_
    refine va_callv (va_runV (As := []) (rest := []) ⟨hx, hb, hml, hown, hts⟩ (metX1_loseCurrent l G tys cI htI _ ho hw hz now noz) (cwV 0 hts gX1_runPulse_X1_loseCurrent rfl rfl rfl (by decide +kernel) ⟨Nat.le_of_ble_eq_true rfl, Nat.le_of_ble_eq_true rfl⟩) ⟨pcM_b, va_recv hK hP (ci := 2) (q0 := po) rfl ho, pcM_u hP hK hD hS hA⟩ rfl rfl hl.1 rfl (lv_room (Nat.le_of_ble_eq_true rfl)) dX1_runPulse_8 ⟨Nat.le_of_ble_eq_true rfl, Nat.le_of_ble_eq_true rfl⟩) hS (fun q _ h => h) (fun q h => h) (fun u t H locs ht hvm hu hB hsz hk1 hS => ?_)
    rw [ht] at hB
    have hD := hD.set (e := .inr (2, [.ref aw, .ref az, .int (cCur cur), .int du, .int ir, .long (wi + cWir cur wm), .long (dm + (cLost cur - cWir cur wm))])) ho
    have hw := va_gs (k := po) (e := (ao, .inr (2, [.ref aw, .ref az, .int (cCur cur), .int du, .int ir, .long (wi + cWir cur wm), .long (dm + (cLost cur - cWir cur wm))]))) (now.symm) hw
    have hz := va_gs (k := po) (e := (ao, .inr (2, [.ref aw, .ref az, .int (cCur cur), .int du, .int ir, .long (wi + cWir cur wm), .long (dm + (cLost cur - cWir cur wm))]))) (noz.symm) hz
    have ho := va_ge (e := (ao, .inr (2, [.ref aw, .ref az, .int (cCur cur), .int du, .int ir, .long (wi + cWir cur wm), .long (dm + (cLost cur - cWir cur wm))]))) ho
    have hP : va_P G vwCl ((ws).set po (ao, .inr (2, [.ref aw, .ref az, .int (cCur cur), .int du, .int ir, .long (wi + cWir cur wm), .long (dm + (cLost cur - cWir cur wm))]))) H := hB
    have hD : va_D A ((ws).set po (ao, .inr (2, [.ref aw, .ref az, .int (cCur cur), .int du, .int ir, .long (wi + cWir cur wm), .long (dm + (cLost cur - cWir cur wm))]))) := hD
    refine lv_aload_n hx hb dX1_runPulse_11 rfl (lv_at hl 0 rfl) ?_
    refine va_callv (va_runV (As := []) (rest := []) ⟨hx, hb, hml, hown, hts⟩ (metX1_spreadWarmth l G tys cI htI _ ho hw hz now noz nwz) (cwV 0 hts gX1_runPulse_X1_spreadWarmth rfl rfl rfl (by decide +kernel) ⟨Nat.le_of_ble_eq_true rfl, Nat.le_of_ble_eq_true rfl⟩) ⟨pcM_b, va_recv hK hP (ci := 2) (q0 := po) rfl ho, pcM_u hP hK hD hS hA⟩ rfl rfl hl.1 rfl (lv_room (Nat.le_of_ble_eq_true rfl)) dX1_runPulse_12 ⟨Nat.le_of_ble_eq_true rfl, Nat.le_of_ble_eq_true rfl⟩) hS (fun q _ h => h) (fun q h => h) (fun u t H locs ht hvm hu hB hsz hk1 hS => ?_)
    rw [ht] at hB
    have hD := hD.set (e := .inl (cI, 12, .inl (cSpr (cCur cur) wm sp 12))) hz
    have ho := va_gs (k := pz) (e := (az, .inl (cI, 12, .inl (cSpr (cCur cur) wm sp 12)))) (noz) ho
    have hw := va_gs (k := pz) (e := (az, .inl (cI, 12, .inl (cSpr (cCur cur) wm sp 12)))) (nwz) hw
    have hz := va_ge (e := (az, .inl (cI, 12, .inl (cSpr (cCur cur) wm sp 12)))) hz
    have hD := hD.set (e := .inr (2, [.ref az, .ref aw, .int (cCur cur), .int du, .int ir, .long (wi + cWir cur wm), .long (dm + (cLost cur - cWir cur wm))])) ho
    have hw := va_gs (k := po) (e := (ao, .inr (2, [.ref az, .ref aw, .int (cCur cur), .int du, .int ir, .long (wi + cWir cur wm), .long (dm + (cLost cur - cWir cur wm))]))) (now.symm) hw
    have hz := va_gs (k := po) (e := (ao, .inr (2, [.ref az, .ref aw, .int (cCur cur), .int du, .int ir, .long (wi + cWir cur wm), .long (dm + (cLost cur - cWir cur wm))]))) (noz.symm) hz
    have ho := va_ge (e := (ao, .inr (2, [.ref az, .ref aw, .int (cCur cur), .int du, .int ir, .long (wi + cWir cur wm), .long (dm + (cLost cur - cWir cur wm))]))) ho
    have hP : va_P G vwCl ((((ws).set po (ao, .inr (2, [.ref aw, .ref az, .int (cCur cur), .int du, .int ir, .long (wi + cWir cur wm), .long (dm + (cLost cur - cWir cur wm))]))).set pz (az, .inl (cI, 12, .inl (cSpr (cCur cur) wm sp 12)))).set po (ao, .inr (2, [.ref az, .ref aw, .int (cCur cur), .int du, .int ir, .long (wi + cWir cur wm), .long (dm + (cLost cur - cWir cur wm))]))) H := hB
    have hD : va_D A ((((ws).set po (ao, .inr (2, [.ref aw, .ref az, .int (cCur cur), .int du, .int ir, .long (wi + cWir cur wm), .long (dm + (cLost cur - cWir cur wm))]))).set pz (az, .inl (cI, 12, .inl (cSpr (cCur cur) wm sp 12)))).set po (ao, .inr (2, [.ref az, .ref aw, .int (cCur cur), .int du, .int ir, .long (wi + cWir cur wm), .long (dm + (cLost cur - cWir cur wm))]))) := hD
    refine lv_aload_n hx hb dX1_runPulse_15 rfl (lv_at hl 0 rfl) ?_
    refine va_callv (va_runV (As := []) (rest := []) ⟨hx, hb, hml, hown, hts⟩ (metX1_watch l G tys cI htI _ ho hz hw noz now) (cwV 0 hts gX1_runPulse_X1_watch rfl rfl rfl (by decide +kernel) ⟨Nat.le_of_ble_eq_true rfl, Nat.le_of_ble_eq_true rfl⟩) ⟨pcM_b, va_recv hK hP (ci := 2) (q0 := po) rfl ho, pcM_u hP hK hD hS hA⟩ rfl rfl hl.1 rfl (lv_room (Nat.le_of_ble_eq_true rfl)) dX1_runPulse_16 ⟨Nat.le_of_ble_eq_true rfl, Nat.le_of_ble_eq_true rfl⟩) hS (fun q _ h => h) (fun q h => h) (fun u t H locs ht hvm hu hB hsz hk1 hS => ?_)
    rw [ht] at hB
    have hD := hD.set (e := .inr (2, [.ref az, .ref aw, .int (cCur cur), .int (if cIr (cCur cur) ir (cSpr (cCur cur) wm sp 12) < 3 then du else 1), .int (cIr (cCur cur) ir (cSpr (cCur cur) wm sp 12)), .long (wi + cWir cur wm), .long (dm + (cLost cur - cWir cur wm))])) ho
    have hw := va_gs (k := po) (e := (ao, .inr (2, [.ref az, .ref aw, .int (cCur cur), .int (if cIr (cCur cur) ir (cSpr (cCur cur) wm sp 12) < 3 then du else 1), .int (cIr (cCur cur) ir (cSpr (cCur cur) wm sp 12)), .long (wi + cWir cur wm), .long (dm + (cLost cur - cWir cur wm))]))) (now.symm) hw
    have hz := va_gs (k := po) (e := (ao, .inr (2, [.ref az, .ref aw, .int (cCur cur), .int (if cIr (cCur cur) ir (cSpr (cCur cur) wm sp 12) < 3 then du else 1), .int (cIr (cCur cur) ir (cSpr (cCur cur) wm sp 12)), .long (wi + cWir cur wm), .long (dm + (cLost cur - cWir cur wm))]))) (noz.symm) hz
    have ho := va_ge (e := (ao, .inr (2, [.ref az, .ref aw, .int (cCur cur), .int (if cIr (cCur cur) ir (cSpr (cCur cur) wm sp 12) < 3 then du else 1), .int (cIr (cCur cur) ir (cSpr (cCur cur) wm sp 12)), .long (wi + cWir cur wm), .long (dm + (cLost cur - cWir cur wm))]))) ho
    have hP : va_P G vwCl (((((ws).set po (ao, .inr (2, [.ref aw, .ref az, .int (cCur cur), .int du, .int ir, .long (wi + cWir cur wm), .long (dm + (cLost cur - cWir cur wm))]))).set pz (az, .inl (cI, 12, .inl (cSpr (cCur cur) wm sp 12)))).set po (ao, .inr (2, [.ref az, .ref aw, .int (cCur cur), .int du, .int ir, .long (wi + cWir cur wm), .long (dm + (cLost cur - cWir cur wm))]))).set po (ao, .inr (2, [.ref az, .ref aw, .int (cCur cur), .int (if cIr (cCur cur) ir (cSpr (cCur cur) wm sp 12) < 3 then du else 1), .int (cIr (cCur cur) ir (cSpr (cCur cur) wm sp 12)), .long (wi + cWir cur wm), .long (dm + (cLost cur - cWir cur wm))]))) H := hB
    have hD : va_D A (((((ws).set po (ao, .inr (2, [.ref aw, .ref az, .int (cCur cur), .int du, .int ir, .long (wi + cWir cur wm), .long (dm + (cLost cur - cWir cur wm))]))).set pz (az, .inl (cI, 12, .inl (cSpr (cCur cur) wm sp 12)))).set po (ao, .inr (2, [.ref az, .ref aw, .int (cCur cur), .int du, .int ir, .long (wi + cWir cur wm), .long (dm + (cLost cur - cWir cur wm))]))).set po (ao, .inr (2, [.ref az, .ref aw, .int (cCur cur), .int (if cIr (cCur cur) ir (cSpr (cCur cur) wm sp 12) < 3 then du else 1), .int (cIr (cCur cur) ir (cSpr (cCur cur) wm sp 12)), .long (wi + cWir cur wm), .long (dm + (cLost cur - cWir cur wm))]))) := hD
    exact W.vret hx hb hr (fun t ht hW => ⟨⟨(), rfl, trivial, by show va_P G vwCl _ t.heap; rw [ht]; rw [List.set_comm _ _ noz] at hP; simp only [List.set_set] at hP; simpa [c4] using hP⟩, hS.F ht⟩) hS.2.2 dX1_runPulse_19

