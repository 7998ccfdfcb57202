theorem mCnt_eq (cur : Int32) (wm : Nat → Int32) (a : Nat) : ∀ k, mCnt cur wm a k = cCnt cur wm a k := by
  intro k
  induction k with
  | zero => rfl
  | succ k ih =>
    unfold mCnt cCnt
    rw [ih]
    by_cases h : cNorm cur (wm (a + k)) = 0
    · rw [if_pos h, Int32.add_zero]; simp [h]
    · rw [if_neg h]; simp [h]
def mV1 (cur x : Int32) : Int32 := x + (if cNorm cur x = 0 then 0 else cur * cur / 2000)
def mV2 (cur : Int32) (wm : Nat → Int32) (i : Nat) : Int32 := mV1 cur (wm i) + (if nI i ≤ 0 then 0 else (wm (i - 1) - wm i) / 8)
def mV3 (cur : Int32) (wm : Nat → Int32) (i : Nat) : Int32 := mV2 cur wm i + (if 11 ≤ nI i then 0 else (wm (i + 1) - wm i) / 8)
def mV4 (cur : Int32) (wm : Nat → Int32) (i : Nat) : Int32 := mV3 cur wm i - (wm i - 4) / 16
theorem i32_4 (x d a : Int32) : x + a - d = x - d + a := by
  rw [Int32.sub_eq_add_neg, Int32.sub_eq_add_neg, Int32.add_assoc, Int32.add_comm a, ← Int32.add_assoc]
theorem mV_eq (cur : Int32) (wm : Nat → Int32) {i : Nat} (hi : i < 12) : mV4 cur wm i = cV4 cur wm i := by
  have e12 : (12 ≤ nI i + 1) ↔ 11 ≤ nI i := by
    rw [nI_1, show (12 : Int32) = nI 12 from rfl, show (11 : Int32) = nI 11 from rfl, nI_leI (by omega) (by omega), nI_leI (by omega) (by omega)]
    omega
  unfold mV4 mV3 mV2 mV1 cV4 cV3 cV2 cV1
  by_cases h1 : cNorm cur (wm i) = 0
  · by_cases h2 : nI i ≤ 0
    · by_cases h3 : 11 ≤ nI i
      · simp only [h1, h2, h3, e12, ↓reduceIte, Int32.add_zero]
      · simp only [h1, h2, h3, e12, ↓reduceIte, Int32.add_zero, i32_4]
    · by_cases h3 : 11 ≤ nI i
      · simp only [h1, h2, h3, e12, ↓reduceIte, Int32.add_zero, i32_4]
      · simp only [h1, h2, h3, e12, ↓reduceIte, Int32.add_zero, i32_4]
  · by_cases h2 : nI i ≤ 0
    · by_cases h3 : 11 ≤ nI i
      · simp only [h1, h2, h3, e12, ↓reduceIte, Int32.add_zero, i32_4]
      · simp only [h1, h2, h3, e12, ↓reduceIte, Int32.add_zero, i32_4]
    · by_cases h3 : 11 ≤ nI i
      · simp only [h1, h2, h3, e12, ↓reduceIte, Int32.add_zero, i32_4]
      · simp only [h1, h2, h3, e12, ↓reduceIte, Int32.add_zero, i32_4]
set_option maxHeartbeats 4000000 in
set_option maxRecDepth 100000 in
theorem metX8_dumpOn (l : Launch) (G : va_G) (tys : List (ClassId × FieldType)) {cI : ClassId} (htI : tI tys cI) {A : Nat → Prop} (ws : va_W) {am : Nat} {ad : Nat → Nat} {z : Nat → Int32} {wi dm : Int64} {F : Nat → Nat → Int32} (hm : ws[12]? = some (am, .inr (9, mF ad z wi dm))) (hA26 : ws[26]? = some (ad 26, .inl (cI, 12, .inl (F 26)))) : Met l yX8_dumpOn wsX8_dumpOn ({ frames := 2, cells := 0, slots := 0, locals := 45 }) (pcM G tys ws A [.ref am]) (va_Qv (fun (_ : Unit) => True) (fun _ t => va_P G vwCl (ws.set 12 (am, .inr (9, mF ad (upd z 21 (cCur (z 21))) (wi + cWir (z 21) (F 26)) (dm + (cLost (z 21) - cWir (z 21) (F 26)))))) t.heap ∧ va_D A (ws.set 12 (am, .inr (9, mF ad (upd z 21 (cCur (z 21))) (wi + cWir (z 21) (F 26)) (dm + (cLost (z 21) - cWir (z 21) (F 26))))))) A) 0 0 A := by
  refine ofM (cc := cX8_dumpOn) (maxL := 8) (ret := none) (by decide) rfl (Nat.le_of_ble_eq_true rfl) ?_
  intro p e s m below meth c ls hx hb hr hlocks hml hown hts hin hl hP hK hD hA hS
  have hown : s.vm.findClass RX8 = some m.cls := hown
  have hiX8 : ∀ w ∈ u_ws RX8 TX8 39, w ∈ wsX8_dumpOn := fun _ h => List.mem_cons_of_mem _ (List.mem_append_right _ h)
  have hl : lv_has ls 8 [(0, .ref am)] := hl
  refine lv_aload_n hx hb dX8_dumpOn_0 rfl (lv_at hl 0 rfl) ?_
  refine vp_callSl (va_Run.run (va_runV (As := []) (rest := []) ⟨hx, hb, hml, hown, hts⟩ (metX8_energyOfCoil l G tys (F := F) _ hm) (cwV 0 hts gX8_dumpOn_X8_energyOfCoil rfl rfl rfl (by decide +kernel) ⟨Nat.le_of_ble_eq_true rfl, Nat.le_of_ble_eq_true rfl⟩) ⟨pcR_b, va_recv hK hP (ci := 9) (q0 := 12) rfl hm, pcR_u hP hK⟩ rfl rfl hl.1 rfl (lv_room (Nat.le_of_ble_eq_true rfl)) dX8_dumpOn_1 ⟨Nat.le_of_ble_eq_true rfl, Nat.le_of_ble_eq_true rfl⟩)) (fun r1 h1 => ?_)
  have h1 : r1 = cSto (z 21) := h1
  refine lv_lstore_n (lv' := [(1, .long r1), (0, .ref am)]) hx hb dX8_dumpOn_4 rfl hl (by decide) rfl (fun ls hl => ?_)
  refine lv_aload_n hx hb dX8_dumpOn_5 rfl (lv_at hl 1 rfl) ?_
  refine lv_dup hx hb dX8_dumpOn_6 rfl ?_
  refine va_get (D := G) (ci := 9) (v := .int (z 21)) (C := RX8) (T := TX8) (N := 39) hx hb hts hiX8 hown hK hP 12 hm rfl 21 (by decide) (hts (.fieldLink RX8 147 "VortexpinModel" "current" "I") (List.mem_of_getElem? (i := 1) rfl)) (fun _ h9 => h9) rfl dX8_dumpOn_7 ?_
  refine lv_aload_n hx hb dX8_dumpOn_10 rfl (lv_at hl 1 rfl) ?_
  refine va_get (D := G) (ci := 9) (v := .int (z 21)) (C := RX8) (T := TX8) (N := 39) hx hb hts hiX8 hown hK hP 12 hm rfl 21 (by decide) (hts (.fieldLink RX8 147 "VortexpinModel" "current" "I") (List.mem_of_getElem? (i := 1) rfl)) (fun _ h9 => h9) rfl dX8_dumpOn_11 ?_
  refine lv_bipush (v := 15) hx hb dX8_dumpOn_14 (by decide) ?_
  refine lv_iadd hx hb dX8_dumpOn_16 ?_
  refine lv_bipush (v := 16) hx hb dX8_dumpOn_17 (by decide) ?_
  refine lv_idiv hx hb dX8_dumpOn_19 (by decide) ?_
  refine lv_isub hx hb dX8_dumpOn_20 ?_
  refine va_put (D := G) (ci := 9) (v := .int ((z 21) - (((z 21) + (15 : Int32)) / (16 : Int32)))) (ty := .int) (C := RX8) (T := TX8) (N := 39) hx hb hts hiX8 tyX8 tyX8_ok nmX8 hown hK hP hD hS 12 hm rfl 21 (by decide) (hts (.fieldLink RX8 147 "VortexpinModel" "current" "I") (List.mem_of_getElem? (i := 1) rfl)) (fun _ h9 => h9) rfl (by decide +kernel) (rfl) (rfl) (Nat.le_of_ble_eq_true rfl) dX8_dumpOn_21 (fun H locs hP hD hS => ?_)
  have hP : va_P G vwCl ((ws).set 12 (am, .inr (9, mF ad (upd z 21 ((z 21) - (((z 21) + (15 : Int32)) / (16 : Int32)))) wi dm))) H := hP
  have hD : va_D A ((ws).set 12 (am, .inr (9, mF ad (upd z 21 ((z 21) - (((z 21) + (15 : Int32)) / (16 : Int32)))) wi dm))) := hD
  have hA26 := va_gs (k := 12) (e := (am, .inr (9, mF ad (upd z 21 ((z 21) - (((z 21) + (15 : Int32)) / (16 : Int32)))) wi dm))) (by decide) hA26
  have hm := va_ge (e := (am, .inr (9, mF ad (upd z 21 ((z 21) - (((z 21) + (15 : Int32)) / (16 : Int32)))) wi dm))) hm
  refine lv_lload_n hx hb dX8_dumpOn_24 rfl (lv_at hl 0 rfl) ?_
  refine lv_aload_n hx hb dX8_dumpOn_25 rfl (lv_at hl 1 rfl) ?_
  refine vp_callSl (va_Run.run (va_runV (As := []) (rest := [.long r1]) ⟨hx, hb, hml, hown, hts⟩ (metX8_energyOfCoil l G tys (F := F) _ hm) (cwV 0 hts gX8_dumpOn_X8_energyOfCoil rfl rfl rfl (by decide +kernel) ⟨Nat.le_of_ble_eq_true rfl, Nat.le_of_ble_eq_true rfl⟩) ⟨pcR_b, va_recv hK hP (ci := 9) (q0 := 12) rfl hm, pcR_u hP hK⟩ rfl rfl hl.1 rfl (lv_room (Nat.le_of_ble_eq_true rfl)) dX8_dumpOn_26 ⟨Nat.le_of_ble_eq_true rfl, Nat.le_of_ble_eq_true rfl⟩)) (fun r26 h26 => ?_)
  have h26 : r26 = cSto (cCur (z 21)) := h26
  refine lv_lsub hx hb dX8_dumpOn_29 ?_
  refine lv_lstore_n (lv' := [(3, .long (r1 - r26)), (1, .long r1), (0, .ref am)]) hx hb dX8_dumpOn_30 rfl hl (by decide) rfl (fun ls hl => ?_)
  refine lv_aload_n hx hb dX8_dumpOn_31 rfl (lv_at hl 2 rfl) ?_
  refine lv_iconst (v := 0) hx hb dX8_dumpOn_32 (by decide) ?_
  refine lv_bipush (v := 11) hx hb dX8_dumpOn_33 (by decide) ?_
  refine vp_callSi (va_Run.run (va_runV (As := [.int (0 : Int32), .int (11 : Int32)]) (rest := []) ⟨hx, hb, hml, hown, hts⟩ (metX8_normals l G tys htI _ hm hA26 0 11 (by decide) (by decide)) (cwV 2 hts gX8_dumpOn_X8_normals rfl rfl rfl (by decide +kernel) ⟨Nat.le_of_ble_eq_true rfl, Nat.le_of_ble_eq_true rfl⟩) ⟨pcR_b, va_recv hK hP (ci := 9) (q0 := 12) rfl hm, pcR_u hP hK⟩ rfl rfl hl.1 rfl (lv_room (Nat.le_of_ble_eq_true rfl)) dX8_dumpOn_35 ⟨Nat.le_of_ble_eq_true rfl, Nat.le_of_ble_eq_true rfl⟩)) (fun r35 h35 => ?_)
  have h35 : r35 = cCnt (cCur (z 21)) (F 26) 0 12 := h35.trans (mCnt_eq _ _ _ _)
  refine lv_istore (lv' := [(5, .int r35), (3, .long (r1 - r26)), (1, .long r1), (0, .ref am)]) hx hb dX8_dumpOn_38 hl (by decide) rfl (fun ls hl => ?_)
  refine lv_lload_n hx hb dX8_dumpOn_40 rfl (lv_at hl 1 rfl) ?_
  refine lv_iload hx hb dX8_dumpOn_41 (lv_at hl 0 rfl) ?_
  refine lv_i2l hx hb dX8_dumpOn_43 rfl ?_
  refine lv_lmul hx hb dX8_dumpOn_44 ?_
  refine lv_iload hx hb dX8_dumpOn_45 (lv_at hl 0 rfl) ?_
  refine lv_bipush (v := 20) hx hb dX8_dumpOn_47 (by decide) ?_
  refine lv_iadd hx hb dX8_dumpOn_49 ?_
  refine lv_i2l hx hb dX8_dumpOn_50 rfl ?_
  refine lv_ldiv hx hb dX8_dumpOn_51 (by rw [h35]; exact cCnt_ne _ _) ?_
  refine lv_lstore (lv' := [(6, .long (((r1 - r26) * r35.toInt64) / ((r35 + (20 : Int32)).toInt64))), (5, .int r35), (3, .long (r1 - r26)), (1, .long r1), (0, .ref am)]) hx hb dX8_dumpOn_52 hl (by decide) rfl (fun ls hl => ?_)
  refine lv_aload_n hx hb dX8_dumpOn_54 rfl (lv_at hl 4 rfl) ?_
  refine lv_dup hx hb dX8_dumpOn_55 rfl ?_
  refine va_get (D := G) (ci := 9) (v := .long wi) (C := RX8) (T := TX8) (N := 39) hx hb hts hiX8 hown hK hP 12 hm rfl 24 (by decide) (hts (.fieldLink RX8 169 "VortexpinModel" "wire" "J") (List.mem_of_getElem? (i := 2) rfl)) (fun _ h9 => h9) rfl dX8_dumpOn_56 ?_
  refine lv_lload hx hb dX8_dumpOn_59 (lv_at hl 0 rfl) ?_
  refine lv_ladd hx hb dX8_dumpOn_61 ?_
  refine va_put (D := G) (ci := 9) (v := .long (wi + (((r1 - r26) * r35.toInt64) / ((r35 + (20 : Int32)).toInt64)))) (ty := .long) (C := RX8) (T := TX8) (N := 39) hx hb hts hiX8 tyX8 tyX8_ok nmX8 hown hK hP hD hS 12 hm rfl 24 (by decide) (hts (.fieldLink RX8 169 "VortexpinModel" "wire" "J") (List.mem_of_getElem? (i := 2) rfl)) (fun _ h9 => h9) rfl (by decide +kernel) (rfl) (rfl) (Nat.le_of_ble_eq_true rfl) dX8_dumpOn_62 (fun H locs hP hD hS => ?_)
  have hP : va_P G vwCl (((ws).set 12 (am, .inr (9, mF ad (upd z 21 ((z 21) - (((z 21) + (15 : Int32)) / (16 : Int32)))) wi dm))).set 12 (am, .inr (9, mF ad (upd z 21 ((z 21) - (((z 21) + (15 : Int32)) / (16 : Int32)))) (wi + (((r1 - r26) * r35.toInt64) / ((r35 + (20 : Int32)).toInt64))) dm))) H := hP
  have hD : va_D A (((ws).set 12 (am, .inr (9, mF ad (upd z 21 ((z 21) - (((z 21) + (15 : Int32)) / (16 : Int32)))) wi dm))).set 12 (am, .inr (9, mF ad (upd z 21 ((z 21) - (((z 21) + (15 : Int32)) / (16 : Int32)))) (wi + (((r1 - r26) * r35.toInt64) / ((r35 + (20 : Int32)).toInt64))) dm))) := hD
  have hA26 := va_gs (k := 12) (e := (am, .inr (9, mF ad (upd z 21 ((z 21) - (((z 21) + (15 : Int32)) / (16 : Int32)))) (wi + (((r1 - r26) * r35.toInt64) / ((r35 + (20 : Int32)).toInt64))) dm))) (by decide) hA26
  have hm := va_ge (e := (am, .inr (9, mF ad (upd z 21 ((z 21) - (((z 21) + (15 : Int32)) / (16 : Int32)))) (wi + (((r1 - r26) * r35.toInt64) / ((r35 + (20 : Int32)).toInt64))) dm))) hm
  refine lv_aload_n hx hb dX8_dumpOn_65 rfl (lv_at hl 4 rfl) ?_
  refine lv_dup hx hb dX8_dumpOn_66 rfl ?_
  refine va_get (D := G) (ci := 9) (v := .long dm) (C := RX8) (T := TX8) (N := 39) hx hb hts hiX8 hown hK hP 12 hm rfl 25 (by decide) (hts (.fieldLink RX8 173 "VortexpinModel" "dump" "J") (List.mem_of_getElem? (i := 3) rfl)) (fun _ h9 => h9) rfl dX8_dumpOn_67 ?_
  refine lv_lload_n hx hb dX8_dumpOn_70 rfl (lv_at hl 2 rfl) ?_
  refine lv_lload hx hb dX8_dumpOn_71 (lv_at hl 0 rfl) ?_
  refine lv_lsub hx hb dX8_dumpOn_73 ?_
  refine lv_ladd hx hb dX8_dumpOn_74 ?_
  refine va_put (D := G) (ci := 9) (v := .long (dm + ((r1 - r26) - (((r1 - r26) * r35.toInt64) / ((r35 + (20 : Int32)).toInt64))))) (ty := .long) (C := RX8) (T := TX8) (N := 39) hx hb hts hiX8 tyX8 tyX8_ok nmX8 hown hK hP hD hS 12 hm rfl 25 (by decide) (hts (.fieldLink RX8 173 "VortexpinModel" "dump" "J") (List.mem_of_getElem? (i := 3) rfl)) (fun _ h9 => h9) rfl (by decide +kernel) (rfl) (rfl) (Nat.le_of_ble_eq_true rfl) dX8_dumpOn_75 (fun H locs hP hD hS => ?_)
  have hP : va_P G vwCl ((((ws).set 12 (am, .inr (9, mF ad (upd z 21 ((z 21) - (((z 21) + (15 : Int32)) / (16 : Int32)))) wi dm))).set 12 (am, .inr (9, mF ad (upd z 21 ((z 21) - (((z 21) + (15 : Int32)) / (16 : Int32)))) (wi + (((r1 - r26) * r35.toInt64) / ((r35 + (20 : Int32)).toInt64))) dm))).set 12 (am, .inr (9, mF ad (upd z 21 ((z 21) - (((z 21) + (15 : Int32)) / (16 : Int32)))) (wi + (((r1 - r26) * r35.toInt64) / ((r35 + (20 : Int32)).toInt64))) (dm + ((r1 - r26) - (((r1 - r26) * r35.toInt64) / ((r35 + (20 : Int32)).toInt64))))))) H := hP
  have hD : va_D A ((((ws).set 12 (am, .inr (9, mF ad (upd z 21 ((z 21) - (((z 21) + (15 : Int32)) / (16 : Int32)))) wi dm))).set 12 (am, .inr (9, mF ad (upd z 21 ((z 21) - (((z 21) + (15 : Int32)) / (16 : Int32)))) (wi + (((r1 - r26) * r35.toInt64) / ((r35 + (20 : Int32)).toInt64))) dm))).set 12 (am, .inr (9, mF ad (upd z 21 ((z 21) - (((z 21) + (15 : Int32)) / (16 : Int32)))) (wi + (((r1 - r26) * r35.toInt64) / ((r35 + (20 : Int32)).toInt64))) (dm + ((r1 - r26) - (((r1 - r26) * r35.toInt64) / ((r35 + (20 : Int32)).toInt64))))))) := hD
  have hA26 := va_gs (k := 12) (e := (am, .inr (9, mF ad (upd z 21 ((z 21) - (((z 21) + (15 : Int32)) / (16 : Int32)))) (wi + (((r1 - r26) * r35.toInt64) / ((r35 + (20 : Int32)).toInt64))) (dm + ((r1 - r26) - (((r1 - r26) * r35.toInt64) / ((r35 + (20 : Int32)).toInt64))))))) (by decide) hA26
  have hm := va_ge (e := (am, .inr (9, mF ad (upd z 21 ((z 21) - (((z 21) + (15 : Int32)) / (16 : Int32)))) (wi + (((r1 - r26) * r35.toInt64) / ((r35 + (20 : Int32)).toInt64))) (dm + ((r1 - r26) - (((r1 - r26) * r35.toInt64) / ((r35 + (20 : Int32)).toInt64))))))) hm
  have ew : (((ws).set 12 (am, .inr (9, mF ad (upd z 21 ((z 21) - (((z 21) + (15 : Int32)) / (16 : Int32)))) wi dm))).set 12 (am, .inr (9, mF ad (upd z 21 ((z 21) - (((z 21) + (15 : Int32)) / (16 : Int32)))) (wi + (((r1 - r26) * r35.toInt64) / ((r35 + (20 : Int32)).toInt64))) dm))).set 12 (am, .inr (9, mF ad (upd z 21 ((z 21) - (((z 21) + (15 : Int32)) / (16 : Int32)))) (wi + (((r1 - r26) * r35.toInt64) / ((r35 + (20 : Int32)).toInt64))) (dm + ((r1 - r26) - (((r1 - r26) * r35.toInt64) / ((r35 + (20 : Int32)).toInt64)))))) = ws.set 12 (am, .inr (9, mF ad (upd z 21 (cCur (z 21))) (wi + cWir (z 21) (F 26)) (dm + (cLost (z 21) - cWir (z 21) (F 26))))) := by rw [List.set_set, List.set_set, h35, h1, h26]; rfl
  have hP : va_P G vwCl ((((ws).set 12 (am, .inr (9, mF ad (upd z 21 ((z 21) - (((z 21) + (15 : Int32)) / (16 : Int32)))) wi dm))).set 12 (am, .inr (9, mF ad (upd z 21 ((z 21) - (((z 21) + (15 : Int32)) / (16 : Int32)))) (wi + (((r1 - r26) * r35.toInt64) / ((r35 + (20 : Int32)).toInt64))) dm))).set 12 (am, .inr (9, mF ad (upd z 21 ((z 21) - (((z 21) + (15 : Int32)) / (16 : Int32)))) (wi + (((r1 - r26) * r35.toInt64) / ((r35 + (20 : Int32)).toInt64))) (dm + ((r1 - r26) - (((r1 - r26) * r35.toInt64) / ((r35 + (20 : Int32)).toInt64))))))) H := hP
  have hD : va_D A ((((ws).set 12 (am, .inr (9, mF ad (upd z 21 ((z 21) - (((z 21) + (15 : Int32)) / (16 : Int32)))) wi dm))).set 12 (am, .inr (9, mF ad (upd z 21 ((z 21) - (((z 21) + (15 : Int32)) / (16 : Int32)))) (wi + (((r1 - r26) * r35.toInt64) / ((r35 + (20 : Int32)).toInt64))) dm))).set 12 (am, .inr (9, mF ad (upd z 21 ((z 21) - (((z 21) + (15 : Int32)) / (16 : Int32)))) (wi + (((r1 - r26) * r35.toInt64) / ((r35 + (20 : Int32)).toInt64))) (dm + ((r1 - r26) - (((r1 - r26) * r35.toInt64) / ((r35 + (20 : Int32)).toInt64))))))) := hD
  rw [ew] at hP hD
  exact W.vret hx hb hr (fun t ht hW => ⟨⟨(), rfl, trivial, by show va_P G vwCl _ t.heap ∧ va_D A _; rw [ht]; exact ⟨hP, hD⟩⟩, hS.F ht⟩) hS.2.2 dX8_dumpOn_78
def cCp (f g : Nat → Int32) (i : Nat) : Nat → Int32 := fun k => if k < i then f k else g k
theorem cCp_0 (f g : Nat → Int32) : cCp f g 0 = g := by funext k; simp [cCp]
theorem cCp_s (f g : Nat → Int32) (i : Nat) : upd (cCp f g i) i (f i) = cCp f g (i + 1) := by
  funext k
  unfold upd cCp
  by_cases h : k = i
  · rw [if_pos h, if_pos (by omega), h]
  · rw [if_neg h]
    by_cases h2 : k < i
    · rw [if_pos h2, if_pos (by omega)]
    · rw [if_neg h2, if_neg (by omega)]
theorem upd_self (f : Nat → Int32) (k : Nat) : upd f k (f k) = f := by
  funext j
  unfold upd
  by_cases h : j = k
  · rw [if_pos h, h]
  · rw [if_neg h]
theorem set_3 {w : va_W} {p q r : Nat} {a b c d : Nat × va_E} (h1 : p ≠ q) (h2 : p ≠ r) : (((w.set p a).set q b).set r c).set p d = ((w.set q b).set r c).set p d := by
  rw [List.set_comm a b h1, List.set_comm a c h2, List.set_set]
set_option maxHeartbeats 4000000 in
set_option maxRecDepth 100000 in
theorem metX8_pulseOfTime (l : Launch) (G : va_G) (tys : List (ClassId × FieldType)) {cI : ClassId} (htI : tI tys cI) {A : Nat → Prop} (ws : va_W) {am : Nat} {ad : Nat → Nat} {z : Nat → Int32} {wi dm : Int64} {F : Nat → Nat → Int32} (hm : ws[12]? = some (am, .inr (9, mF ad z wi dm))) (hA26 : ws[26]? = some (ad 26, .inl (cI, 12, .inl (F 26)))) (hA27 : ws[27]? = some (ad 27, .inl (cI, 12, .inl (F 27)))) : Met l yX8_pulseOfTime wsX8_pulseOfTime ({ frames := 3, cells := 0, slots := 0, locals := 72 }) (pcM G tys ws A [.ref am]) (va_Qv (fun (_ : Unit) => True) (fun _ t => va_P G vwCl (((ws.set 27 (ad 27, .inl (cI, 12, .inl (cSpr (if z 22 = 0 then z 21 else cCur (z 21)) (F 26) (F 27) 12)))).set 26 (ad 26, .inl (cI, 12, .inl (cCp (cSpr (if z 22 = 0 then z 21 else cCur (z 21)) (F 26) (F 27) 12) (F 26) 12)))).set 12 (am, .inr (9, mF ad (upd (upd (upd z 21 (if z 22 = 0 then z 21 else cCur (z 21))) 23 (cIr (if z 22 = 0 then z 21 else cCur (z 21)) (z 23) (cCp (cSpr (if z 22 = 0 then z 21 else cCur (z 21)) (F 26) (F 27) 12) (F 26) 12))) 22 (if z 22 = 0 then (if (cIr (if z 22 = 0 then z 21 else cCur (z 21)) (z 23) (cCp (cSpr (if z 22 = 0 then z 21 else cCur (z 21)) (F 26) (F 27) 12) (F 26) 12)) < 3 then 0 else 1) else 1)) (if z 22 = 0 then wi else wi + cWir (z 21) (F 26)) (if z 22 = 0 then dm else dm + (cLost (z 21) - cWir (z 21) (F 26)))))) t.heap ∧ va_D A (((ws.set 27 (ad 27, .inl (cI, 12, .inl (cSpr (if z 22 = 0 then z 21 else cCur (z 21)) (F 26) (F 27) 12)))).set 26 (ad 26, .inl (cI, 12, .inl (cCp (cSpr (if z 22 = 0 then z 21 else cCur (z 21)) (F 26) (F 27) 12) (F 26) 12)))).set 12 (am, .inr (9, mF ad (upd (upd (upd z 21 (if z 22 = 0 then z 21 else cCur (z 21))) 23 (cIr (if z 22 = 0 then z 21 else cCur (z 21)) (z 23) (cCp (cSpr (if z 22 = 0 then z 21 else cCur (z 21)) (F 26) (F 27) 12) (F 26) 12))) 22 (if z 22 = 0 then (if (cIr (if z 22 = 0 then z 21 else cCur (z 21)) (z 23) (cCp (cSpr (if z 22 = 0 then z 21 else cCur (z 21)) (F 26) (F 27) 12) (F 26) 12)) < 3 then 0 else 1) else 1)) (if z 22 = 0 then wi else wi + cWir (z 21) (F 26)) (if z 22 = 0 then dm else dm + (cLost (z 21) - cWir (z 21) (F 26))))))) A) 0 0 A := by
  refine ofM (cc := cX8_pulseOfTime) (maxL := 3) (ret := none) (by decide) rfl (Nat.le_of_ble_eq_true rfl) ?_
  intro p e s m below meth c ls hx hb hr hlocks hml hown hts hin hl hP hK hD hA hS
  have hown : s.vm.findClass RX8 = some m.cls := hown
  have hiX8 : ∀ w ∈ u_ws RX8 TX8 39, w ∈ wsX8_pulseOfTime := fun _ h => List.mem_cons_of_mem _ (List.mem_append_right _ h)
  have hl : lv_has ls 3 [(0, .ref am)] := hl
  refine lv_aload_n hx hb dX8_pulseOfTime_0 rfl (lv_at hl 0 rfl) ?_
  refine va_get (D := G) (ci := 9) (v := .int (z 22)) (C := RX8) (T := TX8) (N := 39) hx hb hts hiX8 hown hK hP 12 hm rfl 22 (by decide) (hts (.fieldLink RX8 150 "VortexpinModel" "isDumped" "Z") (List.mem_of_getElem? (i := 1) rfl)) (fun _ h9 => h9) rfl dX8_pulseOfTime_1 ?_
  refine lv_if_eq (tgt := 11) hx hb dX8_pulseOfTime_4 (by decide) (fun c4 => ?_) (fun c4 => ?_)
  · refine lv_iconst (v := 0) hx hb dX8_pulseOfTime_11 (by decide) ?_
    refine lv_istore_n (lv' := [(1, .int (0 : Int32)), (0, .ref am)]) hx hb dX8_pulseOfTime_12 rfl hl (by decide) rfl (fun ls hl => ?_)
    have hm1 := hm
    have hA261 := hA26
    have hA271 := hA27
    refine loopM 12 13 3 (fun i => [(0, .ref am), (1, .int (nI i))]) (fun i => ws.set 27 (ad 27, .inl (cI, 12, .inl (cSpr (z 21) (F 26) (F 27) i)))) (fun i => True) (fun i hNi hKi ihi H locs ls hP hD hS hl => ?_) (i0 := 0) (by omega) (trivial) (by rw [cSpr_0, va_self hA27]; exact hP) (by rw [cSpr_0, va_self hA27]; exact hD) hS (lv_sub hl [1, 0] rfl)
    have hl : lv_has ls 3 [(0, .ref am), (1, .int (nI i))] := hl
    have hP : va_P G vwCl (ws.set 27 (ad 27, .inl (cI, 12, .inl (cSpr (z 21) (F 26) (F 27) i)))) H := hP
    have hD : va_D A (ws.set 27 (ad 27, .inl (cI, 12, .inl (cSpr (z 21) (F 26) (F 27) i)))) := hD
    have hm := va_gs (k := 27) (e := (ad 27, .inl (cI, 12, .inl (cSpr (z 21) (F 26) (F 27) i)))) (by decide) hm1
    have hA26 := va_gs (k := 27) (e := (ad 27, .inl (cI, 12, .inl (cSpr (z 21) (F 26) (F 27) i)))) (by decide) hA261
    have hA27 := va_ge (e := (ad 27, .inl (cI, 12, .inl (cSpr (z 21) (F 26) (F 27) i)))) hA271
    refine lv_iload_n hx hb dX8_pulseOfTime_13 rfl (lv_at hl 1 rfl) ?_
    refine lv_bipush (v := 12) hx hb dX8_pulseOfTime_14 (by decide) ?_
    refine lv_icmp_ge (tgt := 152) hx hb dX8_pulseOfTime_16 (by decide) (fun c16 => ?_) (fun c16 => ?_)
    · have heqi : i = 12 := Nat.le_antisymm hNi ((nI_leI (by omega) (by omega)).mp c16)
      refine lv_iconst (v := 0) hx hb dX8_pulseOfTime_152 (by decide) ?_
      refine lv_istore_n (lv' := [(1, .int (0 : Int32)), (0, .ref am)]) hx hb dX8_pulseOfTime_153 rfl hl (by decide) rfl (fun ls hl => ?_)
      rw [heqi] at hP hD hm hA26 hA27
      have hm2 := hm
      have hA262 := hA26
      have hA272 := hA27
      refine loopM 12 154 3 (fun i => [(0, .ref am), (1, .int (nI i))]) (fun i => (ws.set 27 (ad 27, .inl (cI, 12, .inl (cSpr (z 21) (F 26) (F 27) 12)))).set 26 (ad 26, .inl (cI, 12, .inl (cCp (cSpr (z 21) (F 26) (F 27) 12) (F 26) i)))) (fun i => True) (fun i hNi hKi ihi H locs ls hP hD hS hl => ?_) (i0 := 0) (by omega) (trivial) (by rw [cCp_0, va_self hA26]; exact hP) (by rw [cCp_0, va_self hA26]; exact hD) hS (lv_sub hl [1, 0] rfl)
      have hl : lv_has ls 3 [(0, .ref am), (1, .int (nI i))] := hl
      have hP : va_P G vwCl ((ws.set 27 (ad 27, .inl (cI, 12, .inl (cSpr (z 21) (F 26) (F 27) 12)))).set 26 (ad 26, .inl (cI, 12, .inl (cCp (cSpr (z 21) (F 26) (F 27) 12) (F 26) i)))) H := hP
      have hD : va_D A ((ws.set 27 (ad 27, .inl (cI, 12, .inl (cSpr (z 21) (F 26) (F 27) 12)))).set 26 (ad 26, .inl (cI, 12, .inl (cCp (cSpr (z 21) (F 26) (F 27) 12) (F 26) i)))) := hD
      have hm := va_gs (k := 26) (e := (ad 26, .inl (cI, 12, .inl (cCp (cSpr (z 21) (F 26) (F 27) 12) (F 26) i)))) (by decide) hm2
      have hA27 := va_gs (k := 26) (e := (ad 26, .inl (cI, 12, .inl (cCp (cSpr (z 21) (F 26) (F 27) 12) (F 26) i)))) (by decide) hA272
      have hA26 := va_ge (e := (ad 26, .inl (cI, 12, .inl (cCp (cSpr (z 21) (F 26) (F 27) 12) (F 26) i)))) hA262
      refine lv_iload_n hx hb dX8_pulseOfTime_154 rfl (lv_at hl 1 rfl) ?_
      refine lv_bipush (v := 12) hx hb dX8_pulseOfTime_155 (by decide) ?_
      refine lv_icmp_ge (tgt := 178) hx hb dX8_pulseOfTime_157 (by decide) (fun c157 => ?_) (fun c157 => ?_)
      · have heqi : i = 12 := Nat.le_antisymm hNi ((nI_leI (by omega) (by omega)).mp c157)
        rw [heqi] at hP hD hm hA26 hA27
        refine lv_aload_n hx hb dX8_pulseOfTime_178 rfl (lv_at hl 0 rfl) ?_
        refine lv_aload_n hx hb dX8_pulseOfTime_179 rfl (lv_at hl 0 rfl) ?_
        refine vp_callSi (va_Run.run (va_runV (As := []) (rest := [.ref am]) ⟨hx, hb, hml, hown, hts⟩ (metX8_doubt l G tys htI _ (F := updF F 26 (cCp (cSpr (z 21) (F 26) (F 27) 12) (F 26) 12)) hm hA26) (cwV 0 hts gX8_pulseOfTime_X8_doubt rfl rfl rfl (by decide +kernel) ⟨Nat.le_of_ble_eq_true rfl, Nat.le_of_ble_eq_true rfl⟩) ⟨pcR_b, va_recv hK hP (ci := 9) (q0 := 12) rfl hm, pcR_u hP hK⟩ rfl rfl hl.1 rfl (lv_room (Nat.le_of_ble_eq_true rfl)) dX8_pulseOfTime_180 ⟨Nat.le_of_ble_eq_true rfl, Nat.le_of_ble_eq_true rfl⟩)) (fun r180 h180 => ?_)
        have h180 : r180 = cDoubt (z 21) (cCp (cSpr (z 21) (F 26) (F 27) 12) (F 26) 12) := h180.trans (by rw [mCnt_eq, mCnt_eq]; rfl)
        refine vp_callSi (va_Run.run (va_runS (As := [.int r180]) (rest := [.ref am]) ⟨hx, hb, hml, hown, hts⟩ (metX8_size l r180) (va_cwS 1 hts gX8_pulseOfTime_X8_size rfl rfl rfl (by decide +kernel) ⟨Nat.le_of_ble_eq_true rfl, Nat.le_of_ble_eq_true rfl⟩) ⟨pc0_b, pc0_u⟩ rfl rfl hl.1 rfl (lv_room (Nat.le_of_ble_eq_true rfl)) dX8_pulseOfTime_183 ⟨Nat.le_of_ble_eq_true rfl, Nat.le_of_ble_eq_true rfl⟩)) (fun r183 h183 => ?_)
        refine lv_iconst (v := 2) hx hb dX8_pulseOfTime_186 (by decide) ?_
        refine lv_icmp_lt (tgt := 199) hx hb dX8_pulseOfTime_187 (by decide) (fun c187 => ?_) (fun c187 => ?_)
        · refine lv_iconst (v := 0) hx hb dX8_pulseOfTime_199 (by decide) ?_
          refine va_put (D := G) (ci := 9) (v := .int (0 : Int32)) (ty := .int) (C := RX8) (T := TX8) (N := 39) hx hb hts hiX8 tyX8 tyX8_ok nmX8 hown hK hP hD hS 12 hm rfl 23 (by decide) (hts (.fieldLink RX8 154 "VortexpinModel" "inRow" "I") (List.mem_of_getElem? (i := 5) rfl)) (fun _ h9 => h9) rfl (by decide +kernel) (rfl) (rfl) (Nat.le_of_ble_eq_true rfl) dX8_pulseOfTime_200 (fun H locs hP hD hS => ?_)
          have hP : va_P G vwCl (((ws.set 27 (ad 27, .inl (cI, 12, .inl (cSpr (z 21) (F 26) (F 27) 12)))).set 26 (ad 26, .inl (cI, 12, .inl (cCp (cSpr (z 21) (F 26) (F 27) 12) (F 26) 12)))).set 12 (am, .inr (9, mF ad (upd z 23 (0 : Int32)) wi dm))) H := hP
          have hD : va_D A (((ws.set 27 (ad 27, .inl (cI, 12, .inl (cSpr (z 21) (F 26) (F 27) 12)))).set 26 (ad 26, .inl (cI, 12, .inl (cCp (cSpr (z 21) (F 26) (F 27) 12) (F 26) 12)))).set 12 (am, .inr (9, mF ad (upd z 23 (0 : Int32)) wi dm))) := hD
          have hA26 := va_gs (k := 12) (e := (am, .inr (9, mF ad (upd z 23 (0 : Int32)) wi dm))) (by decide) hA26
          have hA27 := va_gs (k := 12) (e := (am, .inr (9, mF ad (upd z 23 (0 : Int32)) wi dm))) (by decide) hA27
          have hm := va_ge (e := (am, .inr (9, mF ad (upd z 23 (0 : Int32)) wi dm))) hm
          refine lv_aload_n hx hb dX8_pulseOfTime_203 rfl (lv_at hl 0 rfl) ?_
          refine lv_aload_n hx hb dX8_pulseOfTime_204 rfl (lv_at hl 0 rfl) ?_
          refine va_get (D := G) (ci := 9) (v := .int (z 22)) (C := RX8) (T := TX8) (N := 39) hx hb hts hiX8 hown hK hP 12 hm rfl 22 (by decide) (hts (.fieldLink RX8 150 "VortexpinModel" "isDumped" "Z") (List.mem_of_getElem? (i := 1) rfl)) (fun _ h9 => h9) rfl dX8_pulseOfTime_205 ?_
          refine lv_if_ne (tgt := 219) hx hb dX8_pulseOfTime_208 (by decide) (fun c208 => ?_) (fun c208 => ?_)
          · refine lv_iconst (v := 1) hx hb dX8_pulseOfTime_219 (by decide) ?_
            refine lv_goto (tgt := 224) hx hb dX8_pulseOfTime_220 (by decide) ?_
            refine va_put (D := G) (ci := 9) (v := .int (1 : Int32)) (ty := .boolean) (C := RX8) (T := TX8) (N := 39) hx hb hts hiX8 tyX8 tyX8_ok nmX8 hown hK hP hD hS 12 hm rfl 22 (by decide) (hts (.fieldLink RX8 150 "VortexpinModel" "isDumped" "Z") (List.mem_of_getElem? (i := 1) rfl)) (fun _ h9 => h9) rfl (by decide +kernel) (rfl) (rfl) (Nat.le_of_ble_eq_true rfl) dX8_pulseOfTime_224 (fun H locs hP hD hS => ?_)
            have hP : va_P G vwCl ((((ws.set 27 (ad 27, .inl (cI, 12, .inl (cSpr (z 21) (F 26) (F 27) 12)))).set 26 (ad 26, .inl (cI, 12, .inl (cCp (cSpr (z 21) (F 26) (F 27) 12) (F 26) 12)))).set 12 (am, .inr (9, mF ad (upd z 23 (0 : Int32)) wi dm))).set 12 (am, .inr (9, mF ad (upd (upd z 23 (0 : Int32)) 22 (1 : Int32)) wi dm))) H := hP
            have hD : va_D A ((((ws.set 27 (ad 27, .inl (cI, 12, .inl (cSpr (z 21) (F 26) (F 27) 12)))).set 26 (ad 26, .inl (cI, 12, .inl (cCp (cSpr (z 21) (F 26) (F 27) 12) (F 26) 12)))).set 12 (am, .inr (9, mF ad (upd z 23 (0 : Int32)) wi dm))).set 12 (am, .inr (9, mF ad (upd (upd z 23 (0 : Int32)) 22 (1 : Int32)) wi dm))) := hD
            have hA26 := va_gs (k := 12) (e := (am, .inr (9, mF ad (upd (upd z 23 (0 : Int32)) 22 (1 : Int32)) wi dm))) (by decide) hA26
            have hA27 := va_gs (k := 12) (e := (am, .inr (9, mF ad (upd (upd z 23 (0 : Int32)) 22 (1 : Int32)) wi dm))) (by decide) hA27
            have hm := va_ge (e := (am, .inr (9, mF ad (upd (upd z 23 (0 : Int32)) 22 (1 : Int32)) wi dm))) hm
            have ew : (((ws.set 27 (ad 27, .inl (cI, 12, .inl (cSpr (z 21) (F 26) (F 27) 12)))).set 26 (ad 26, .inl (cI, 12, .inl (cCp (cSpr (z 21) (F 26) (F 27) 12) (F 26) 12)))).set 12 (am, .inr (9, mF ad (upd z 23 (0 : Int32)) wi dm))).set 12 (am, .inr (9, mF ad (upd (upd z 23 (0 : Int32)) 22 (1 : Int32)) wi dm)) = ((ws.set 27 (ad 27, .inl (cI, 12, .inl (cSpr (if z 22 = 0 then z 21 else cCur (z 21)) (F 26) (F 27) 12)))).set 26 (ad 26, .inl (cI, 12, .inl (cCp (cSpr (if z 22 = 0 then z 21 else cCur (z 21)) (F 26) (F 27) 12) (F 26) 12)))).set 12 (am, .inr (9, mF ad (upd (upd (upd z 21 (if z 22 = 0 then z 21 else cCur (z 21))) 23 (cIr (if z 22 = 0 then z 21 else cCur (z 21)) (z 23) (cCp (cSpr (if z 22 = 0 then z 21 else cCur (z 21)) (F 26) (F 27) 12) (F 26) 12))) 22 (if z 22 = 0 then (if (cIr (if z 22 = 0 then z 21 else cCur (z 21)) (z 23) (cCp (cSpr (if z 22 = 0 then z 21 else cCur (z 21)) (F 26) (F 27) 12) (F 26) 12)) < 3 then 0 else 1) else 1)) (if z 22 = 0 then wi else wi + cWir (z 21) (F 26)) (if z 22 = 0 then dm else dm + (cLost (z 21) - cWir (z 21) (F 26))))) := by exact absurd c4 c208
            have hP : va_P G vwCl ((((ws.set 27 (ad 27, .inl (cI, 12, .inl (cSpr (z 21) (F 26) (F 27) 12)))).set 26 (ad 26, .inl (cI, 12, .inl (cCp (cSpr (z 21) (F 26) (F 27) 12) (F 26) 12)))).set 12 (am, .inr (9, mF ad (upd z 23 (0 : Int32)) wi dm))).set 12 (am, .inr (9, mF ad (upd (upd z 23 (0 : Int32)) 22 (1 : Int32)) wi dm))) H := hP
            have hD : va_D A ((((ws.set 27 (ad 27, .inl (cI, 12, .inl (cSpr (z 21) (F 26) (F 27) 12)))).set 26 (ad 26, .inl (cI, 12, .inl (cCp (cSpr (z 21) (F 26) (F 27) 12) (F 26) 12)))).set 12 (am, .inr (9, mF ad (upd z 23 (0 : Int32)) wi dm))).set 12 (am, .inr (9, mF ad (upd (upd z 23 (0 : Int32)) 22 (1 : Int32)) wi dm))) := hD
            rw [ew] at hP hD
            exact W.vret hx hb hr (fun t ht hW => ⟨⟨(), rfl, trivial, by show va_P G vwCl _ t.heap ∧ va_D A _; rw [ht]; exact ⟨hP, hD⟩⟩, hS.F ht⟩) hS.2.2 dX8_pulseOfTime_227
          · refine lv_aload_n hx hb dX8_pulseOfTime_211 rfl (lv_at hl 0 rfl) ?_
            refine va_get (D := G) (ci := 9) (v := .int (0 : Int32)) (C := RX8) (T := TX8) (N := 39) hx hb hts hiX8 hown hK hP 12 hm rfl 23 (by decide) (hts (.fieldLink RX8 154 "VortexpinModel" "inRow" "I") (List.mem_of_getElem? (i := 5) rfl)) (fun _ h9 => h9) rfl dX8_pulseOfTime_212 ?_
            refine lv_iconst (v := 3) hx hb dX8_pulseOfTime_215 (by decide) ?_
            refine lv_icmp_lt (tgt := 223) hx hb dX8_pulseOfTime_216 (by decide) (fun c216 => ?_) (fun c216 => absurd (by decide) c216)
            refine lv_iconst (v := 0) hx hb dX8_pulseOfTime_223 (by decide) ?_
            refine va_put (D := G) (ci := 9) (v := .int (0 : Int32)) (ty := .boolean) (C := RX8) (T := TX8) (N := 39) hx hb hts hiX8 tyX8 tyX8_ok nmX8 hown hK hP hD hS 12 hm rfl 22 (by decide) (hts (.fieldLink RX8 150 "VortexpinModel" "isDumped" "Z") (List.mem_of_getElem? (i := 1) rfl)) (fun _ h9 => h9) rfl (by decide +kernel) (rfl) (rfl) (Nat.le_of_ble_eq_true rfl) dX8_pulseOfTime_224 (fun H locs hP hD hS => ?_)
            have hP : va_P G vwCl ((((ws.set 27 (ad 27, .inl (cI, 12, .inl (cSpr (z 21) (F 26) (F 27) 12)))).set 26 (ad 26, .inl (cI, 12, .inl (cCp (cSpr (z 21) (F 26) (F 27) 12) (F 26) 12)))).set 12 (am, .inr (9, mF ad (upd z 23 (0 : Int32)) wi dm))).set 12 (am, .inr (9, mF ad (upd (upd z 23 (0 : Int32)) 22 (0 : Int32)) wi dm))) H := hP
            have hD : va_D A ((((ws.set 27 (ad 27, .inl (cI, 12, .inl (cSpr (z 21) (F 26) (F 27) 12)))).set 26 (ad 26, .inl (cI, 12, .inl (cCp (cSpr (z 21) (F 26) (F 27) 12) (F 26) 12)))).set 12 (am, .inr (9, mF ad (upd z 23 (0 : Int32)) wi dm))).set 12 (am, .inr (9, mF ad (upd (upd z 23 (0 : Int32)) 22 (0 : Int32)) wi dm))) := hD
            have hA26 := va_gs (k := 12) (e := (am, .inr (9, mF ad (upd (upd z 23 (0 : Int32)) 22 (0 : Int32)) wi dm))) (by decide) hA26
            have hA27 := va_gs (k := 12) (e := (am, .inr (9, mF ad (upd (upd z 23 (0 : Int32)) 22 (0 : Int32)) wi dm))) (by decide) hA27
            have hm := va_ge (e := (am, .inr (9, mF ad (upd (upd z 23 (0 : Int32)) 22 (0 : Int32)) wi dm))) hm
            have ew : (((ws.set 27 (ad 27, .inl (cI, 12, .inl (cSpr (z 21) (F 26) (F 27) 12)))).set 26 (ad 26, .inl (cI, 12, .inl (cCp (cSpr (z 21) (F 26) (F 27) 12) (F 26) 12)))).set 12 (am, .inr (9, mF ad (upd z 23 (0 : Int32)) wi dm))).set 12 (am, .inr (9, mF ad (upd (upd z 23 (0 : Int32)) 22 (0 : Int32)) wi dm)) = ((ws.set 27 (ad 27, .inl (cI, 12, .inl (cSpr (if z 22 = 0 then z 21 else cCur (z 21)) (F 26) (F 27) 12)))).set 26 (ad 26, .inl (cI, 12, .inl (cCp (cSpr (if z 22 = 0 then z 21 else cCur (z 21)) (F 26) (F 27) 12) (F 26) 12)))).set 12 (am, .inr (9, mF ad (upd (upd (upd z 21 (if z 22 = 0 then z 21 else cCur (z 21))) 23 (cIr (if z 22 = 0 then z 21 else cCur (z 21)) (z 23) (cCp (cSpr (if z 22 = 0 then z 21 else cCur (z 21)) (F 26) (F 27) 12) (F 26) 12))) 22 (if z 22 = 0 then (if (cIr (if z 22 = 0 then z 21 else cCur (z 21)) (z 23) (cCp (cSpr (if z 22 = 0 then z 21 else cCur (z 21)) (F 26) (F 27) 12) (F 26) 12)) < 3 then 0 else 1) else 1)) (if z 22 = 0 then wi else wi + cWir (z 21) (F 26)) (if z 22 = 0 then dm else dm + (cLost (z 21) - cWir (z 21) (F 26))))) := by subst h180; subst h183; simp only [cIr, (eq_true c4), c187, (eq_true c208), c216, upd_self, (show (0 : Int32) < 3 by decide), ↓reduceIte]; rw [List.set_set] <;> rfl
            have hP : va_P G vwCl ((((ws.set 27 (ad 27, .inl (cI, 12, .inl (cSpr (z 21) (F 26) (F 27) 12)))).set 26 (ad 26, .inl (cI, 12, .inl (cCp (cSpr (z 21) (F 26) (F 27) 12) (F 26) 12)))).set 12 (am, .inr (9, mF ad (upd z 23 (0 : Int32)) wi dm))).set 12 (am, .inr (9, mF ad (upd (upd z 23 (0 : Int32)) 22 (0 : Int32)) wi dm))) H := hP
            have hD : va_D A ((((ws.set 27 (ad 27, .inl (cI, 12, .inl (cSpr (z 21) (F 26) (F 27) 12)))).set 26 (ad 26, .inl (cI, 12, .inl (cCp (cSpr (z 21) (F 26) (F 27) 12) (F 26) 12)))).set 12 (am, .inr (9, mF ad (upd z 23 (0 : Int32)) wi dm))).set 12 (am, .inr (9, mF ad (upd (upd z 23 (0 : Int32)) 22 (0 : Int32)) wi dm))) := hD
            rw [ew] at hP hD
            exact W.vret hx hb hr (fun t ht hW => ⟨⟨(), rfl, trivial, by show va_P G vwCl _ t.heap ∧ va_D A _; rw [ht]; exact ⟨hP, hD⟩⟩, hS.F ht⟩) hS.2.2 dX8_pulseOfTime_227
        · refine lv_aload_n hx hb dX8_pulseOfTime_190 rfl (lv_at hl 0 rfl) ?_
          refine va_get (D := G) (ci := 9) (v := .int (z 23)) (C := RX8) (T := TX8) (N := 39) hx hb hts hiX8 hown hK hP 12 hm rfl 23 (by decide) (hts (.fieldLink RX8 154 "VortexpinModel" "inRow" "I") (List.mem_of_getElem? (i := 5) rfl)) (fun _ h9 => h9) rfl dX8_pulseOfTime_191 ?_
          refine lv_iconst (v := 1) hx hb dX8_pulseOfTime_194 (by decide) ?_
          refine lv_iadd hx hb dX8_pulseOfTime_195 ?_
          refine lv_goto (tgt := 200) hx hb dX8_pulseOfTime_196 (by decide) ?_
          refine va_put (D := G) (ci := 9) (v := .int ((z 23) + (1 : Int32))) (ty := .int) (C := RX8) (T := TX8) (N := 39) hx hb hts hiX8 tyX8 tyX8_ok nmX8 hown hK hP hD hS 12 hm rfl 23 (by decide) (hts (.fieldLink RX8 154 "VortexpinModel" "inRow" "I") (List.mem_of_getElem? (i := 5) rfl)) (fun _ h9 => h9) rfl (by decide +kernel) (rfl) (rfl) (Nat.le_of_ble_eq_true rfl) dX8_pulseOfTime_200 (fun H locs hP hD hS => ?_)
          have hP : va_P G vwCl (((ws.set 27 (ad 27, .inl (cI, 12, .inl (cSpr (z 21) (F 26) (F 27) 12)))).set 26 (ad 26, .inl (cI, 12, .inl (cCp (cSpr (z 21) (F 26) (F 27) 12) (F 26) 12)))).set 12 (am, .inr (9, mF ad (upd z 23 ((z 23) + (1 : Int32))) wi dm))) H := hP
          have hD : va_D A (((ws.set 27 (ad 27, .inl (cI, 12, .inl (cSpr (z 21) (F 26) (F 27) 12)))).set 26 (ad 26, .inl (cI, 12, .inl (cCp (cSpr (z 21) (F 26) (F 27) 12) (F 26) 12)))).set 12 (am, .inr (9, mF ad (upd z 23 ((z 23) + (1 : Int32))) wi dm))) := hD
          have hA26 := va_gs (k := 12) (e := (am, .inr (9, mF ad (upd z 23 ((z 23) + (1 : Int32))) wi dm))) (by decide) hA26
          have hA27 := va_gs (k := 12) (e := (am, .inr (9, mF ad (upd z 23 ((z 23) + (1 : Int32))) wi dm))) (by decide) hA27
          have hm := va_ge (e := (am, .inr (9, mF ad (upd z 23 ((z 23) + (1 : Int32))) wi dm))) hm
          refine lv_aload_n hx hb dX8_pulseOfTime_203 rfl (lv_at hl 0 rfl) ?_
          refine lv_aload_n hx hb dX8_pulseOfTime_204 rfl (lv_at hl 0 rfl) ?_
          refine va_get (D := G) (ci := 9) (v := .int (z 22)) (C := RX8) (T := TX8) (N := 39) hx hb hts hiX8 hown hK hP 12 hm rfl 22 (by decide) (hts (.fieldLink RX8 150 "VortexpinModel" "isDumped" "Z") (List.mem_of_getElem? (i := 1) rfl)) (fun _ h9 => h9) rfl dX8_pulseOfTime_205 ?_
          refine lv_if_ne (tgt := 219) hx hb dX8_pulseOfTime_208 (by decide) (fun c208 => ?_) (fun c208 => ?_)
          · refine lv_iconst (v := 1) hx hb dX8_pulseOfTime_219 (by decide) ?_
            refine lv_goto (tgt := 224) hx hb dX8_pulseOfTime_220 (by decide) ?_
            refine va_put (D := G) (ci := 9) (v := .int (1 : Int32)) (ty := .boolean) (C := RX8) (T := TX8) (N := 39) hx hb hts hiX8 tyX8 tyX8_ok nmX8 hown hK hP hD hS 12 hm rfl 22 (by decide) (hts (.fieldLink RX8 150 "VortexpinModel" "isDumped" "Z") (List.mem_of_getElem? (i := 1) rfl)) (fun _ h9 => h9) rfl (by decide +kernel) (rfl) (rfl) (Nat.le_of_ble_eq_true rfl) dX8_pulseOfTime_224 (fun H locs hP hD hS => ?_)
            have hP : va_P G vwCl ((((ws.set 27 (ad 27, .inl (cI, 12, .inl (cSpr (z 21) (F 26) (F 27) 12)))).set 26 (ad 26, .inl (cI, 12, .inl (cCp (cSpr (z 21) (F 26) (F 27) 12) (F 26) 12)))).set 12 (am, .inr (9, mF ad (upd z 23 ((z 23) + (1 : Int32))) wi dm))).set 12 (am, .inr (9, mF ad (upd (upd z 23 ((z 23) + (1 : Int32))) 22 (1 : Int32)) wi dm))) H := hP
            have hD : va_D A ((((ws.set 27 (ad 27, .inl (cI, 12, .inl (cSpr (z 21) (F 26) (F 27) 12)))).set 26 (ad 26, .inl (cI, 12, .inl (cCp (cSpr (z 21) (F 26) (F 27) 12) (F 26) 12)))).set 12 (am, .inr (9, mF ad (upd z 23 ((z 23) + (1 : Int32))) wi dm))).set 12 (am, .inr (9, mF ad (upd (upd z 23 ((z 23) + (1 : Int32))) 22 (1 : Int32)) wi dm))) := hD
            have hA26 := va_gs (k := 12) (e := (am, .inr (9, mF ad (upd (upd z 23 ((z 23) + (1 : Int32))) 22 (1 : Int32)) wi dm))) (by decide) hA26
            have hA27 := va_gs (k := 12) (e := (am, .inr (9, mF ad (upd (upd z 23 ((z 23) + (1 : Int32))) 22 (1 : Int32)) wi dm))) (by decide) hA27
            have hm := va_ge (e := (am, .inr (9, mF ad (upd (upd z 23 ((z 23) + (1 : Int32))) 22 (1 : Int32)) wi dm))) hm
            have ew : (((ws.set 27 (ad 27, .inl (cI, 12, .inl (cSpr (z 21) (F 26) (F 27) 12)))).set 26 (ad 26, .inl (cI, 12, .inl (cCp (cSpr (z 21) (F 26) (F 27) 12) (F 26) 12)))).set 12 (am, .inr (9, mF ad (upd z 23 ((z 23) + (1 : Int32))) wi dm))).set 12 (am, .inr (9, mF ad (upd (upd z 23 ((z 23) + (1 : Int32))) 22 (1 : Int32)) wi dm)) = ((ws.set 27 (ad 27, .inl (cI, 12, .inl (cSpr (if z 22 = 0 then z 21 else cCur (z 21)) (F 26) (F 27) 12)))).set 26 (ad 26, .inl (cI, 12, .inl (cCp (cSpr (if z 22 = 0 then z 21 else cCur (z 21)) (F 26) (F 27) 12) (F 26) 12)))).set 12 (am, .inr (9, mF ad (upd (upd (upd z 21 (if z 22 = 0 then z 21 else cCur (z 21))) 23 (cIr (if z 22 = 0 then z 21 else cCur (z 21)) (z 23) (cCp (cSpr (if z 22 = 0 then z 21 else cCur (z 21)) (F 26) (F 27) 12) (F 26) 12))) 22 (if z 22 = 0 then (if (cIr (if z 22 = 0 then z 21 else cCur (z 21)) (z 23) (cCp (cSpr (if z 22 = 0 then z 21 else cCur (z 21)) (F 26) (F 27) 12) (F 26) 12)) < 3 then 0 else 1) else 1)) (if z 22 = 0 then wi else wi + cWir (z 21) (F 26)) (if z 22 = 0 then dm else dm + (cLost (z 21) - cWir (z 21) (F 26))))) := by exact absurd c4 c208
            have hP : va_P G vwCl ((((ws.set 27 (ad 27, .inl (cI, 12, .inl (cSpr (z 21) (F 26) (F 27) 12)))).set 26 (ad 26, .inl (cI, 12, .inl (cCp (cSpr (z 21) (F 26) (F 27) 12) (F 26) 12)))).set 12 (am, .inr (9, mF ad (upd z 23 ((z 23) + (1 : Int32))) wi dm))).set 12 (am, .inr (9, mF ad (upd (upd z 23 ((z 23) + (1 : Int32))) 22 (1 : Int32)) wi dm))) H := hP
            have hD : va_D A ((((ws.set 27 (ad 27, .inl (cI, 12, .inl (cSpr (z 21) (F 26) (F 27) 12)))).set 26 (ad 26, .inl (cI, 12, .inl (cCp (cSpr (z 21) (F 26) (F 27) 12) (F 26) 12)))).set 12 (am, .inr (9, mF ad (upd z 23 ((z 23) + (1 : Int32))) wi dm))).set 12 (am, .inr (9, mF ad (upd (upd z 23 ((z 23) + (1 : Int32))) 22 (1 : Int32)) wi dm))) := hD
            rw [ew] at hP hD
            exact W.vret hx hb hr (fun t ht hW => ⟨⟨(), rfl, trivial, by show va_P G vwCl _ t.heap ∧ va_D A _; rw [ht]; exact ⟨hP, hD⟩⟩, hS.F ht⟩) hS.2.2 dX8_pulseOfTime_227
          · refine lv_aload_n hx hb dX8_pulseOfTime_211 rfl (lv_at hl 0 rfl) ?_
            refine va_get (D := G) (ci := 9) (v := .int ((z 23) + (1 : Int32))) (C := RX8) (T := TX8) (N := 39) hx hb hts hiX8 hown hK hP 12 hm rfl 23 (by decide) (hts (.fieldLink RX8 154 "VortexpinModel" "inRow" "I") (List.mem_of_getElem? (i := 5) rfl)) (fun _ h9 => h9) rfl dX8_pulseOfTime_212 ?_
            refine lv_iconst (v := 3) hx hb dX8_pulseOfTime_215 (by decide) ?_
            refine lv_icmp_lt (tgt := 223) hx hb dX8_pulseOfTime_216 (by decide) (fun c216 => ?_) (fun c216 => ?_)
            · refine lv_iconst (v := 0) hx hb dX8_pulseOfTime_223 (by decide) ?_
              refine va_put (D := G) (ci := 9) (v := .int (0 : Int32)) (ty := .boolean) (C := RX8) (T := TX8) (N := 39) hx hb hts hiX8 tyX8 tyX8_ok nmX8 hown hK hP hD hS 12 hm rfl 22 (by decide) (hts (.fieldLink RX8 150 "VortexpinModel" "isDumped" "Z") (List.mem_of_getElem? (i := 1) rfl)) (fun _ h9 => h9) rfl (by decide +kernel) (rfl) (rfl) (Nat.le_of_ble_eq_true rfl) dX8_pulseOfTime_224 (fun H locs hP hD hS => ?_)
              have hP : va_P G vwCl ((((ws.set 27 (ad 27, .inl (cI, 12, .inl (cSpr (z 21) (F 26) (F 27) 12)))).set 26 (ad 26, .inl (cI, 12, .inl (cCp (cSpr (z 21) (F 26) (F 27) 12) (F 26) 12)))).set 12 (am, .inr (9, mF ad (upd z 23 ((z 23) + (1 : Int32))) wi dm))).set 12 (am, .inr (9, mF ad (upd (upd z 23 ((z 23) + (1 : Int32))) 22 (0 : Int32)) wi dm))) H := hP
              have hD : va_D A ((((ws.set 27 (ad 27, .inl (cI, 12, .inl (cSpr (z 21) (F 26) (F 27) 12)))).set 26 (ad 26, .inl (cI, 12, .inl (cCp (cSpr (z 21) (F 26) (F 27) 12) (F 26) 12)))).set 12 (am, .inr (9, mF ad (upd z 23 ((z 23) + (1 : Int32))) wi dm))).set 12 (am, .inr (9, mF ad (upd (upd z 23 ((z 23) + (1 : Int32))) 22 (0 : Int32)) wi dm))) := hD
              have hA26 := va_gs (k := 12) (e := (am, .inr (9, mF ad (upd (upd z 23 ((z 23) + (1 : Int32))) 22 (0 : Int32)) wi dm))) (by decide) hA26
              have hA27 := va_gs (k := 12) (e := (am, .inr (9, mF ad (upd (upd z 23 ((z 23) + (1 : Int32))) 22 (0 : Int32)) wi dm))) (by decide) hA27
              have hm := va_ge (e := (am, .inr (9, mF ad (upd (upd z 23 ((z 23) + (1 : Int32))) 22 (0 : Int32)) wi dm))) hm
              have ew : (((ws.set 27 (ad 27, .inl (cI, 12, .inl (cSpr (z 21) (F 26) (F 27) 12)))).set 26 (ad 26, .inl (cI, 12, .inl (cCp (cSpr (z 21) (F 26) (F 27) 12) (F 26) 12)))).set 12 (am, .inr (9, mF ad (upd z 23 ((z 23) + (1 : Int32))) wi dm))).set 12 (am, .inr (9, mF ad (upd (upd z 23 ((z 23) + (1 : Int32))) 22 (0 : Int32)) wi dm)) = ((ws.set 27 (ad 27, .inl (cI, 12, .inl (cSpr (if z 22 = 0 then z 21 else cCur (z 21)) (F 26) (F 27) 12)))).set 26 (ad 26, .inl (cI, 12, .inl (cCp (cSpr (if z 22 = 0 then z 21 else cCur (z 21)) (F 26) (F 27) 12) (F 26) 12)))).set 12 (am, .inr (9, mF ad (upd (upd (upd z 21 (if z 22 = 0 then z 21 else cCur (z 21))) 23 (cIr (if z 22 = 0 then z 21 else cCur (z 21)) (z 23) (cCp (cSpr (if z 22 = 0 then z 21 else cCur (z 21)) (F 26) (F 27) 12) (F 26) 12))) 22 (if z 22 = 0 then (if (cIr (if z 22 = 0 then z 21 else cCur (z 21)) (z 23) (cCp (cSpr (if z 22 = 0 then z 21 else cCur (z 21)) (F 26) (F 27) 12) (F 26) 12)) < 3 then 0 else 1) else 1)) (if z 22 = 0 then wi else wi + cWir (z 21) (F 26)) (if z 22 = 0 then dm else dm + (cLost (z 21) - cWir (z 21) (F 26))))) := by subst h180; subst h183; simp only [cIr, (eq_true c4), c187, (eq_true c208), c216, upd_self, (show (0 : Int32) < 3 by decide), ↓reduceIte]; rw [List.set_set] <;> rfl
              have hP : va_P G vwCl ((((ws.set 27 (ad 27, .inl (cI, 12, .inl (cSpr (z 21) (F 26) (F 27) 12)))).set 26 (ad 26, .inl (cI, 12, .inl (cCp (cSpr (z 21) (F 26) (F 27) 12) (F 26) 12)))).set 12 (am, .inr (9, mF ad (upd z 23 ((z 23) + (1 : Int32))) wi dm))).set 12 (am, .inr (9, mF ad (upd (upd z 23 ((z 23) + (1 : Int32))) 22 (0 : Int32)) wi dm))) H := hP
              have hD : va_D A ((((ws.set 27 (ad 27, .inl (cI, 12, .inl (cSpr (z 21) (F 26) (F 27) 12)))).set 26 (ad 26, .inl (cI, 12, .inl (cCp (cSpr (z 21) (F 26) (F 27) 12) (F 26) 12)))).set 12 (am, .inr (9, mF ad (upd z 23 ((z 23) + (1 : Int32))) wi dm))).set 12 (am, .inr (9, mF ad (upd (upd z 23 ((z 23) + (1 : Int32))) 22 (0 : Int32)) wi dm))) := hD
              rw [ew] at hP hD
              exact W.vret hx hb hr (fun t ht hW => ⟨⟨(), rfl, trivial, by show va_P G vwCl _ t.heap ∧ va_D A _; rw [ht]; exact ⟨hP, hD⟩⟩, hS.F ht⟩) hS.2.2 dX8_pulseOfTime_227
            · refine lv_iconst (v := 1) hx hb dX8_pulseOfTime_219 (by decide) ?_
              refine lv_goto (tgt := 224) hx hb dX8_pulseOfTime_220 (by decide) ?_
              refine va_put (D := G) (ci := 9) (v := .int (1 : Int32)) (ty := .boolean) (C := RX8) (T := TX8) (N := 39) hx hb hts hiX8 tyX8 tyX8_ok nmX8 hown hK hP hD hS 12 hm rfl 22 (by decide) (hts (.fieldLink RX8 150 "VortexpinModel" "isDumped" "Z") (List.mem_of_getElem? (i := 1) rfl)) (fun _ h9 => h9) rfl (by decide +kernel) (rfl) (rfl) (Nat.le_of_ble_eq_true rfl) dX8_pulseOfTime_224 (fun H locs hP hD hS => ?_)
              have hP : va_P G vwCl ((((ws.set 27 (ad 27, .inl (cI, 12, .inl (cSpr (z 21) (F 26) (F 27) 12)))).set 26 (ad 26, .inl (cI, 12, .inl (cCp (cSpr (z 21) (F 26) (F 27) 12) (F 26) 12)))).set 12 (am, .inr (9, mF ad (upd z 23 ((z 23) + (1 : Int32))) wi dm))).set 12 (am, .inr (9, mF ad (upd (upd z 23 ((z 23) + (1 : Int32))) 22 (1 : Int32)) wi dm))) H := hP
              have hD : va_D A ((((ws.set 27 (ad 27, .inl (cI, 12, .inl (cSpr (z 21) (F 26) (F 27) 12)))).set 26 (ad 26, .inl (cI, 12, .inl (cCp (cSpr (z 21) (F 26) (F 27) 12) (F 26) 12)))).set 12 (am, .inr (9, mF ad (upd z 23 ((z 23) + (1 : Int32))) wi dm))).set 12 (am, .inr (9, mF ad (upd (upd z 23 ((z 23) + (1 : Int32))) 22 (1 : Int32)) wi dm))) := hD
              have hA26 := va_gs (k := 12) (e := (am, .inr (9, mF ad (upd (upd z 23 ((z 23) + (1 : Int32))) 22 (1 : Int32)) wi dm))) (by decide) hA26
              have hA27 := va_gs (k := 12) (e := (am, .inr (9, mF ad (upd (upd z 23 ((z 23) + (1 : Int32))) 22 (1 : Int32)) wi dm))) (by decide) hA27
              have hm := va_ge (e := (am, .inr (9, mF ad (upd (upd z 23 ((z 23) + (1 : Int32))) 22 (1 : Int32)) wi dm))) hm
              have ew : (((ws.set 27 (ad 27, .inl (cI, 12, .inl (cSpr (z 21) (F 26) (F 27) 12)))).set 26 (ad 26, .inl (cI, 12, .inl (cCp (cSpr (z 21) (F 26) (F 27) 12) (F 26) 12)))).set 12 (am, .inr (9, mF ad (upd z 23 ((z 23) + (1 : Int32))) wi dm))).set 12 (am, .inr (9, mF ad (upd (upd z 23 ((z 23) + (1 : Int32))) 22 (1 : Int32)) wi dm)) = ((ws.set 27 (ad 27, .inl (cI, 12, .inl (cSpr (if z 22 = 0 then z 21 else cCur (z 21)) (F 26) (F 27) 12)))).set 26 (ad 26, .inl (cI, 12, .inl (cCp (cSpr (if z 22 = 0 then z 21 else cCur (z 21)) (F 26) (F 27) 12) (F 26) 12)))).set 12 (am, .inr (9, mF ad (upd (upd (upd z 21 (if z 22 = 0 then z 21 else cCur (z 21))) 23 (cIr (if z 22 = 0 then z 21 else cCur (z 21)) (z 23) (cCp (cSpr (if z 22 = 0 then z 21 else cCur (z 21)) (F 26) (F 27) 12) (F 26) 12))) 22 (if z 22 = 0 then (if (cIr (if z 22 = 0 then z 21 else cCur (z 21)) (z 23) (cCp (cSpr (if z 22 = 0 then z 21 else cCur (z 21)) (F 26) (F 27) 12) (F 26) 12)) < 3 then 0 else 1) else 1)) (if z 22 = 0 then wi else wi + cWir (z 21) (F 26)) (if z 22 = 0 then dm else dm + (cLost (z 21) - cWir (z 21) (F 26))))) := by subst h180; subst h183; simp only [cIr, (eq_true c4), c187, (eq_true c208), c216, upd_self, (show (0 : Int32) < 3 by decide), ↓reduceIte]; rw [List.set_set] <;> rfl
              have hP : va_P G vwCl ((((ws.set 27 (ad 27, .inl (cI, 12, .inl (cSpr (z 21) (F 26) (F 27) 12)))).set 26 (ad 26, .inl (cI, 12, .inl (cCp (cSpr (z 21) (F 26) (F 27) 12) (F 26) 12)))).set 12 (am, .inr (9, mF ad (upd z 23 ((z 23) + (1 : Int32))) wi dm))).set 12 (am, .inr (9, mF ad (upd (upd z 23 ((z 23) + (1 : Int32))) 22 (1 : Int32)) wi dm))) H := hP
              have hD : va_D A ((((ws.set 27 (ad 27, .inl (cI, 12, .inl (cSpr (z 21) (F 26) (F 27) 12)))).set 26 (ad 26, .inl (cI, 12, .inl (cCp (cSpr (z 21) (F 26) (F 27) 12) (F 26) 12)))).set 12 (am, .inr (9, mF ad (upd z 23 ((z 23) + (1 : Int32))) wi dm))).set 12 (am, .inr (9, mF ad (upd (upd z 23 ((z 23) + (1 : Int32))) 22 (1 : Int32)) wi dm))) := hD
              rw [ew] at hP hD
              exact W.vret hx hb hr (fun t ht hW => ⟨⟨(), rfl, trivial, by show va_P G vwCl _ t.heap ∧ va_D A _; rw [ht]; exact ⟨hP, hD⟩⟩, hS.F ht⟩) hS.2.2 dX8_pulseOfTime_227
      · have hlti : i < 12 := Nat.lt_of_not_le (mt (nI_leI (by omega) (by omega)).mpr c157)
        refine lv_aload_n hx hb dX8_pulseOfTime_160 rfl (lv_at hl 0 rfl) ?_
        refine va_get (D := G) (ci := 9) (v := .ref (ad 26)) (C := RX8) (T := TX8) (N := 39) hx hb hts hiX8 hown hK hP 12 hm rfl 19 (by decide) (hts (.fieldLink RX8 49 "VortexpinModel" "part" "[I") (List.mem_of_getElem? (i := 2) rfl)) (fun _ h9 => h9) rfl dX8_pulseOfTime_161 ?_
        refine lv_iload_n hx hb dX8_pulseOfTime_164 rfl (lv_at hl 1 rfl) ?_
        refine lv_aload_n hx hb dX8_pulseOfTime_165 rfl (lv_at hl 0 rfl) ?_
        refine va_get (D := G) (ci := 9) (v := .ref (ad 27)) (C := RX8) (T := TX8) (N := 39) hx hb hts hiX8 hown hK hP 12 hm rfl 20 (by decide) (hts (.fieldLink RX8 52 "VortexpinModel" "partThen" "[I") (List.mem_of_getElem? (i := 4) rfl)) (fun _ h9 => h9) rfl dX8_pulseOfTime_166 ?_
        refine lv_iload_n hx hb dX8_pulseOfTime_169 rfl (lv_at hl 1 rfl) ?_
        refine va_iald hx hb hK hP 27 0 hA27 htI (by first | exact vp_in_nI (by omega) (by omega) | assumption) dX8_pulseOfTime_170 ?_
        refine rd_i (j := i) (nI_clamp (by omega)) ?_
        refine va_iast hx hb hK hP hD hS 26 0 hA26 htI (by first | exact vp_in_nI (by omega) (by omega) | assumption) dX8_pulseOfTime_171 (fun H locs hP hD hS => ?_)
        have hm := va_gs (k := 26) (e := (ad 26, .inl (cI, 12, .inl (upd (cCp (cSpr (z 21) (F 26) (F 27) 12) (F 26) i) (nI i).toNatClampNeg ((cSpr (z 21) (F 26) (F 27) 12) i))))) (by decide) hm
        have hA27 := va_gs (k := 26) (e := (ad 26, .inl (cI, 12, .inl (upd (cCp (cSpr (z 21) (F 26) (F 27) 12) (F 26) i) (nI i).toNatClampNeg ((cSpr (z 21) (F 26) (F 27) 12) i))))) (by decide) hA27
        have hA26 := va_ge (e := (ad 26, .inl (cI, 12, .inl (upd (cCp (cSpr (z 21) (F 26) (F 27) 12) (F 26) i) (nI i).toNatClampNeg ((cSpr (z 21) (F 26) (F 27) 12) i))))) hA26
        refine lv_iinc (v := nI (i + 1)) (lv' := [(1, .int (nI (i + 1))), (0, .ref am)]) hx hb dX8_pulseOfTime_172 hl (k := 1) rfl (nI_1 i) (by decide) rfl (fun ls hl => ?_)
        refine lv_goto (tgt := 154) hx hb dX8_pulseOfTime_175 (by decide) ?_
        have ew : ((ws.set 27 (ad 27, .inl (cI, 12, .inl (cSpr (z 21) (F 26) (F 27) 12)))).set 26 (ad 26, .inl (cI, 12, .inl (cCp (cSpr (z 21) (F 26) (F 27) 12) (F 26) i)))).set 26 (ad 26, .inl (cI, 12, .inl (upd (cCp (cSpr (z 21) (F 26) (F 27) 12) (F 26) i) (nI i).toNatClampNeg ((cSpr (z 21) (F 26) (F 27) 12) i)))) = (ws.set 27 (ad 27, .inl (cI, 12, .inl (cSpr (z 21) (F 26) (F 27) 12)))).set 26 (ad 26, .inl (cI, 12, .inl (cCp (cSpr (z 21) (F 26) (F 27) 12) (F 26) (i + 1)))) := by rw [nI_clamp (show i < 2 ^ 31 by omega), List.set_set, cCp_s]
        have hP : va_P G vwCl (((ws.set 27 (ad 27, .inl (cI, 12, .inl (cSpr (z 21) (F 26) (F 27) 12)))).set 26 (ad 26, .inl (cI, 12, .inl (cCp (cSpr (z 21) (F 26) (F 27) 12) (F 26) i)))).set 26 (ad 26, .inl (cI, 12, .inl (upd (cCp (cSpr (z 21) (F 26) (F 27) 12) (F 26) i) (nI i).toNatClampNeg ((cSpr (z 21) (F 26) (F 27) 12) i))))) H := hP
        have hD : va_D A (((ws.set 27 (ad 27, .inl (cI, 12, .inl (cSpr (z 21) (F 26) (F 27) 12)))).set 26 (ad 26, .inl (cI, 12, .inl (cCp (cSpr (z 21) (F 26) (F 27) 12) (F 26) i)))).set 26 (ad 26, .inl (cI, 12, .inl (upd (cCp (cSpr (z 21) (F 26) (F 27) 12) (F 26) i) (nI i).toNatClampNeg ((cSpr (z 21) (F 26) (F 27) 12) i))))) := hD
        rw [ew] at hP hD
        exact ihi H _ ls hlti (trivial) hP hD hS (lv_sub hl [1, 0] rfl)
    · have hlti : i < 12 := Nat.lt_of_not_le (mt (nI_leI (by omega) (by omega)).mpr c16)
      refine lv_aload_n hx hb dX8_pulseOfTime_19 rfl (lv_at hl 0 rfl) ?_
      refine va_get (D := G) (ci := 9) (v := .ref (ad 26)) (C := RX8) (T := TX8) (N := 39) hx hb hts hiX8 hown hK hP 12 hm rfl 19 (by decide) (hts (.fieldLink RX8 49 "VortexpinModel" "part" "[I") (List.mem_of_getElem? (i := 2) rfl)) (fun _ h9 => h9) rfl dX8_pulseOfTime_20 ?_
      refine lv_iload_n hx hb dX8_pulseOfTime_23 rfl (lv_at hl 1 rfl) ?_
      refine va_iald hx hb hK hP 26 0 hA26 htI (by first | exact vp_in_nI (by omega) (by omega) | assumption) dX8_pulseOfTime_24 ?_
      refine rd_i (j := i) (nI_clamp (by omega)) ?_
      refine lv_aload_n hx hb dX8_pulseOfTime_25 rfl (lv_at hl 0 rfl) ?_
      refine lv_iload_n hx hb dX8_pulseOfTime_26 rfl (lv_at hl 1 rfl) ?_
      refine vp_callSi (va_Run.run (va_runV (As := [.int (nI i)]) (rest := [.int ((F 26) i)]) ⟨hx, hb, hml, hown, hts⟩ (metX8_isNormal l G tys htI _ (F := updF F 27 (cSpr (z 21) (F 26) (F 27) i)) hm hA26 (nI i) (uK_of (n := 12) (by omega) (by decide))) (cwV 1 hts gX8_pulseOfTime_X8_isNormal rfl rfl rfl (by decide +kernel) ⟨Nat.le_of_ble_eq_true rfl, Nat.le_of_ble_eq_true rfl⟩) ⟨pcR_b, va_recv hK hP (ci := 9) (q0 := 12) rfl hm, pcR_u hP hK⟩ rfl rfl hl.1 rfl (lv_room (Nat.le_of_ble_eq_true rfl)) dX8_pulseOfTime_27 ⟨Nat.le_of_ble_eq_true rfl, Nat.le_of_ble_eq_true rfl⟩)) (fun r27 h27 => ?_)
      have h27 : r27 = cNorm (z 21) (F 26 i) := h27.trans (by rw [nI_clamp (show i < 2 ^ 31 by omega)]; rfl)
      refine lv_if_eq (tgt := 49) hx hb dX8_pulseOfTime_30 (by decide) (fun c30 => ?_) (fun c30 => ?_)
      · refine lv_iconst (v := 0) hx hb dX8_pulseOfTime_49 (by decide) ?_
        refine lv_iadd hx hb dX8_pulseOfTime_50 ?_
        refine lv_istore_n (lv' := [(2, .int (((F 26) i) + (0 : Int32))), (0, .ref am), (1, .int (nI i))]) hx hb dX8_pulseOfTime_51 rfl hl (by decide) rfl (fun ls hl => ?_)
        refine lv_iload_n hx hb dX8_pulseOfTime_52 rfl (lv_at hl 0 rfl) ?_
        refine lv_iload_n hx hb dX8_pulseOfTime_53 rfl (lv_at hl 2 rfl) ?_
        refine lv_if_le (tgt := 78) hx hb dX8_pulseOfTime_54 (by decide) (fun c54 => ?_) (fun c54 => ?_)
        · refine lv_iconst (v := 0) hx hb dX8_pulseOfTime_78 (by decide) ?_
          refine lv_iadd hx hb dX8_pulseOfTime_79 ?_
          refine lv_istore_n (lv' := [(2, .int ((((F 26) i) + (0 : Int32)) + (0 : Int32))), (0, .ref am), (1, .int (nI i))]) hx hb dX8_pulseOfTime_80 rfl hl (by decide) rfl (fun ls hl => ?_)
          refine lv_iload_n hx hb dX8_pulseOfTime_81 rfl (lv_at hl 0 rfl) ?_
          refine lv_iload_n hx hb dX8_pulseOfTime_82 rfl (lv_at hl 2 rfl) ?_
          refine lv_bipush (v := 11) hx hb dX8_pulseOfTime_83 (by decide) ?_
          refine lv_icmp_ge (tgt := 109) hx hb dX8_pulseOfTime_85 (by decide) (fun c85 => ?_) (fun c85 => ?_)
          · refine lv_iconst (v := 0) hx hb dX8_pulseOfTime_109 (by decide) ?_
            refine lv_iadd hx hb dX8_pulseOfTime_110 ?_
            refine lv_istore_n (lv' := [(2, .int (((((F 26) i) + (0 : Int32)) + (0 : Int32)) + (0 : Int32))), (0, .ref am), (1, .int (nI i))]) hx hb dX8_pulseOfTime_111 rfl hl (by decide) rfl (fun ls hl => ?_)
            refine lv_iload_n hx hb dX8_pulseOfTime_112 rfl (lv_at hl 0 rfl) ?_
            refine lv_aload_n hx hb dX8_pulseOfTime_113 rfl (lv_at hl 1 rfl) ?_
            refine va_get (D := G) (ci := 9) (v := .ref (ad 26)) (C := RX8) (T := TX8) (N := 39) hx hb hts hiX8 hown hK hP 12 hm rfl 19 (by decide) (hts (.fieldLink RX8 49 "VortexpinModel" "part" "[I") (List.mem_of_getElem? (i := 2) rfl)) (fun _ h9 => h9) rfl dX8_pulseOfTime_114 ?_
            refine lv_iload_n hx hb dX8_pulseOfTime_117 rfl (lv_at hl 2 rfl) ?_
            refine va_iald hx hb hK hP 26 0 hA26 htI (by first | exact vp_in_nI (by omega) (by omega) | assumption) dX8_pulseOfTime_118 ?_
            refine rd_i (j := i) (nI_clamp (by omega)) ?_
            refine lv_iconst (v := 4) hx hb dX8_pulseOfTime_119 (by decide) ?_
            refine lv_isub hx hb dX8_pulseOfTime_120 ?_
            refine lv_bipush (v := 16) hx hb dX8_pulseOfTime_121 (by decide) ?_
            refine lv_idiv hx hb dX8_pulseOfTime_123 (by decide) ?_
            refine lv_isub hx hb dX8_pulseOfTime_124 ?_
            refine lv_istore_n (lv' := [(2, .int ((((((F 26) i) + (0 : Int32)) + (0 : Int32)) + (0 : Int32)) - ((((F 26) i) - (4 : Int32)) / (16 : Int32)))), (0, .ref am), (1, .int (nI i))]) hx hb dX8_pulseOfTime_125 rfl hl (by decide) rfl (fun ls hl => ?_)
            refine lv_aload_n hx hb dX8_pulseOfTime_126 rfl (lv_at hl 1 rfl) ?_
            refine va_get (D := G) (ci := 9) (v := .ref (ad 27)) (C := RX8) (T := TX8) (N := 39) hx hb hts hiX8 hown hK hP 12 hm rfl 20 (by decide) (hts (.fieldLink RX8 52 "VortexpinModel" "partThen" "[I") (List.mem_of_getElem? (i := 4) rfl)) (fun _ h9 => h9) rfl dX8_pulseOfTime_127 ?_
            refine lv_iload_n hx hb dX8_pulseOfTime_130 rfl (lv_at hl 2 rfl) ?_
            refine lv_iload_n hx hb dX8_pulseOfTime_131 rfl (lv_at hl 0 rfl) ?_
            refine lv_sipush (v := 1000) hx hb dX8_pulseOfTime_132 (by decide) ?_
            refine lv_icmp_le (tgt := 144) hx hb dX8_pulseOfTime_135 (by decide) (fun c135 => ?_) (fun c135 => ?_)
            · refine lv_iload_n hx hb dX8_pulseOfTime_144 rfl (lv_at hl 0 rfl) ?_
              refine va_iast hx hb hK hP hD hS 27 0 hA27 htI (by first | exact vp_in_nI (by omega) (by omega) | assumption) dX8_pulseOfTime_145 (fun H locs hP hD hS => ?_)
              have hm := va_gs (k := 27) (e := (ad 27, .inl (cI, 12, .inl (upd (cSpr (z 21) (F 26) (F 27) i) (nI i).toNatClampNeg ((((((F 26) i) + (0 : Int32)) + (0 : Int32)) + (0 : Int32)) - ((((F 26) i) - (4 : Int32)) / (16 : Int32))))))) (by decide) hm
              have hA26 := va_gs (k := 27) (e := (ad 27, .inl (cI, 12, .inl (upd (cSpr (z 21) (F 26) (F 27) i) (nI i).toNatClampNeg ((((((F 26) i) + (0 : Int32)) + (0 : Int32)) + (0 : Int32)) - ((((F 26) i) - (4 : Int32)) / (16 : Int32))))))) (by decide) hA26
              have hA27 := va_ge (e := (ad 27, .inl (cI, 12, .inl (upd (cSpr (z 21) (F 26) (F 27) i) (nI i).toNatClampNeg ((((((F 26) i) + (0 : Int32)) + (0 : Int32)) + (0 : Int32)) - ((((F 26) i) - (4 : Int32)) / (16 : Int32))))))) hA27
              refine lv_iinc (v := nI (i + 1)) (lv' := [(1, .int (nI (i + 1))), (2, .int ((((((F 26) i) + (0 : Int32)) + (0 : Int32)) + (0 : Int32)) - ((((F 26) i) - (4 : Int32)) / (16 : Int32)))), (0, .ref am)]) hx hb dX8_pulseOfTime_146 hl (k := 2) rfl (nI_1 i) (by decide) rfl (fun ls hl => ?_)
              refine lv_goto (tgt := 13) hx hb dX8_pulseOfTime_149 (by decide) ?_
              have ew : (ws.set 27 (ad 27, .inl (cI, 12, .inl (cSpr (z 21) (F 26) (F 27) i)))).set 27 (ad 27, .inl (cI, 12, .inl (upd (cSpr (z 21) (F 26) (F 27) i) (nI i).toNatClampNeg ((((((F 26) i) + (0 : Int32)) + (0 : Int32)) + (0 : Int32)) - ((((F 26) i) - (4 : Int32)) / (16 : Int32)))))) = ws.set 27 (ad 27, .inl (cI, 12, .inl (cSpr (z 21) (F 26) (F 27) (i + 1)))) := by subst h27; have e9 := mV_eq (z 21) (F 26) hlti; unfold mV4 mV3 mV2 mV1 at e9; simp only [(eq_true c30), c54, c85, ↓reduceIte] at e9; rw [nI_clamp (show i < 2 ^ 31 by omega), List.set_set, ← cSpr_s, ← e9, jmin_a c135]
              have hP : va_P G vwCl ((ws.set 27 (ad 27, .inl (cI, 12, .inl (cSpr (z 21) (F 26) (F 27) i)))).set 27 (ad 27, .inl (cI, 12, .inl (upd (cSpr (z 21) (F 26) (F 27) i) (nI i).toNatClampNeg ((((((F 26) i) + (0 : Int32)) + (0 : Int32)) + (0 : Int32)) - ((((F 26) i) - (4 : Int32)) / (16 : Int32))))))) H := hP
              have hD : va_D A ((ws.set 27 (ad 27, .inl (cI, 12, .inl (cSpr (z 21) (F 26) (F 27) i)))).set 27 (ad 27, .inl (cI, 12, .inl (upd (cSpr (z 21) (F 26) (F 27) i) (nI i).toNatClampNeg ((((((F 26) i) + (0 : Int32)) + (0 : Int32)) + (0 : Int32)) - ((((F 26) i) - (4 : Int32)) / (16 : Int32))))))) := hD
              rw [ew] at hP hD
              exact ihi H _ ls hlti (trivial) hP hD hS (lv_sub hl [2, 0] rfl)
            · refine lv_sipush (v := 1000) hx hb dX8_pulseOfTime_138 (by decide) ?_
              refine lv_goto (tgt := 145) hx hb dX8_pulseOfTime_141 (by decide) ?_
              refine va_iast hx hb hK hP hD hS 27 0 hA27 htI (by first | exact vp_in_nI (by omega) (by omega) | assumption) dX8_pulseOfTime_145 (fun H locs hP hD hS => ?_)
              have hm := va_gs (k := 27) (e := (ad 27, .inl (cI, 12, .inl (upd (cSpr (z 21) (F 26) (F 27) i) (nI i).toNatClampNeg (1000 : Int32))))) (by decide) hm
              have hA26 := va_gs (k := 27) (e := (ad 27, .inl (cI, 12, .inl (upd (cSpr (z 21) (F 26) (F 27) i) (nI i).toNatClampNeg (1000 : Int32))))) (by decide) hA26
              have hA27 := va_ge (e := (ad 27, .inl (cI, 12, .inl (upd (cSpr (z 21) (F 26) (F 27) i) (nI i).toNatClampNeg (1000 : Int32))))) hA27
              refine lv_iinc (v := nI (i + 1)) (lv' := [(1, .int (nI (i + 1))), (2, .int ((((((F 26) i) + (0 : Int32)) + (0 : Int32)) + (0 : Int32)) - ((((F 26) i) - (4 : Int32)) / (16 : Int32)))), (0, .ref am)]) hx hb dX8_pulseOfTime_146 hl (k := 2) rfl (nI_1 i) (by decide) rfl (fun ls hl => ?_)
              refine lv_goto (tgt := 13) hx hb dX8_pulseOfTime_149 (by decide) ?_
              have ew : (ws.set 27 (ad 27, .inl (cI, 12, .inl (cSpr (z 21) (F 26) (F 27) i)))).set 27 (ad 27, .inl (cI, 12, .inl (upd (cSpr (z 21) (F 26) (F 27) i) (nI i).toNatClampNeg (1000 : Int32)))) = ws.set 27 (ad 27, .inl (cI, 12, .inl (cSpr (z 21) (F 26) (F 27) (i + 1)))) := by subst h27; have e9 := mV_eq (z 21) (F 26) hlti; unfold mV4 mV3 mV2 mV1 at e9; simp only [(eq_true c30), c54, c85, ↓reduceIte] at e9; rw [nI_clamp (show i < 2 ^ 31 by omega), List.set_set, ← cSpr_s, ← e9, jmin_b c135]
              have hP : va_P G vwCl ((ws.set 27 (ad 27, .inl (cI, 12, .inl (cSpr (z 21) (F 26) (F 27) i)))).set 27 (ad 27, .inl (cI, 12, .inl (upd (cSpr (z 21) (F 26) (F 27) i) (nI i).toNatClampNeg (1000 : Int32))))) H := hP
              have hD : va_D A ((ws.set 27 (ad 27, .inl (cI, 12, .inl (cSpr (z 21) (F 26) (F 27) i)))).set 27 (ad 27, .inl (cI, 12, .inl (upd (cSpr (z 21) (F 26) (F 27) i) (nI i).toNatClampNeg (1000 : Int32))))) := hD
              rw [ew] at hP hD
              exact ihi H _ ls hlti (trivial) hP hD hS (lv_sub hl [2, 0] rfl)
          · refine lv_aload_n hx hb dX8_pulseOfTime_88 rfl (lv_at hl 1 rfl) ?_
            refine va_get (D := G) (ci := 9) (v := .ref (ad 26)) (C := RX8) (T := TX8) (N := 39) hx hb hts hiX8 hown hK hP 12 hm rfl 19 (by decide) (hts (.fieldLink RX8 49 "VortexpinModel" "part" "[I") (List.mem_of_getElem? (i := 2) rfl)) (fun _ h9 => h9) rfl dX8_pulseOfTime_89 ?_
            refine lv_iload_n hx hb dX8_pulseOfTime_92 rfl (lv_at hl 2 rfl) ?_
            refine lv_iconst (v := 1) hx hb dX8_pulseOfTime_93 (by decide) ?_
            refine lv_iadd hx hb dX8_pulseOfTime_94 ?_
            refine va_iald hx hb hK hP 26 0 hA26 htI (by rw [nI_1]; exact vp_in_nI (by have := mt (nI_leI (a := 11) (b := i) (by omega) (by omega)).mpr c85; omega) (by omega)) dX8_pulseOfTime_95 ?_
            refine rd_i (j := i + 1) (by rw [nI_1]; exact nI_clamp (by omega)) ?_
            refine lv_aload_n hx hb dX8_pulseOfTime_96 rfl (lv_at hl 1 rfl) ?_
            refine va_get (D := G) (ci := 9) (v := .ref (ad 26)) (C := RX8) (T := TX8) (N := 39) hx hb hts hiX8 hown hK hP 12 hm rfl 19 (by decide) (hts (.fieldLink RX8 49 "VortexpinModel" "part" "[I") (List.mem_of_getElem? (i := 2) rfl)) (fun _ h9 => h9) rfl dX8_pulseOfTime_97 ?_
            refine lv_iload_n hx hb dX8_pulseOfTime_100 rfl (lv_at hl 2 rfl) ?_
            refine va_iald hx hb hK hP 26 0 hA26 htI (by first | exact vp_in_nI (by omega) (by omega) | assumption) dX8_pulseOfTime_101 ?_
            refine rd_i (j := i) (nI_clamp (by omega)) ?_
            refine lv_isub hx hb dX8_pulseOfTime_102 ?_
            refine lv_bipush (v := 8) hx hb dX8_pulseOfTime_103 (by decide) ?_
            refine lv_idiv hx hb dX8_pulseOfTime_105 (by decide) ?_
            refine lv_goto (tgt := 110) hx hb dX8_pulseOfTime_106 (by decide) ?_
            refine lv_iadd hx hb dX8_pulseOfTime_110 ?_
            refine lv_istore_n (lv' := [(2, .int (((((F 26) i) + (0 : Int32)) + (0 : Int32)) + ((((F 26) (i + 1)) - ((F 26) i)) / (8 : Int32)))), (0, .ref am), (1, .int (nI i))]) hx hb dX8_pulseOfTime_111 rfl hl (by decide) rfl (fun ls hl => ?_)
            refine lv_iload_n hx hb dX8_pulseOfTime_112 rfl (lv_at hl 0 rfl) ?_
            refine lv_aload_n hx hb dX8_pulseOfTime_113 rfl (lv_at hl 1 rfl) ?_
            refine va_get (D := G) (ci := 9) (v := .ref (ad 26)) (C := RX8) (T := TX8) (N := 39) hx hb hts hiX8 hown hK hP 12 hm rfl 19 (by decide) (hts (.fieldLink RX8 49 "VortexpinModel" "part" "[I") (List.mem_of_getElem? (i := 2) rfl)) (fun _ h9 => h9) rfl dX8_pulseOfTime_114 ?_
            refine lv_iload_n hx hb dX8_pulseOfTime_117 rfl (lv_at hl 2 rfl) ?_
            refine va_iald hx hb hK hP 26 0 hA26 htI (by first | exact vp_in_nI (by omega) (by omega) | assumption) dX8_pulseOfTime_118 ?_
            refine rd_i (j := i) (nI_clamp (by omega)) ?_
            refine lv_iconst (v := 4) hx hb dX8_pulseOfTime_119 (by decide) ?_
            refine lv_isub hx hb dX8_pulseOfTime_120 ?_
            refine lv_bipush (v := 16) hx hb dX8_pulseOfTime_121 (by decide) ?_
            refine lv_idiv hx hb dX8_pulseOfTime_123 (by decide) ?_
            refine lv_isub hx hb dX8_pulseOfTime_124 ?_
            refine lv_istore_n (lv' := [(2, .int ((((((F 26) i) + (0 : Int32)) + (0 : Int32)) + ((((F 26) (i + 1)) - ((F 26) i)) / (8 : Int32))) - ((((F 26) i) - (4 : Int32)) / (16 : Int32)))), (0, .ref am), (1, .int (nI i))]) hx hb dX8_pulseOfTime_125 rfl hl (by decide) rfl (fun ls hl => ?_)
            refine lv_aload_n hx hb dX8_pulseOfTime_126 rfl (lv_at hl 1 rfl) ?_
            refine va_get (D := G) (ci := 9) (v := .ref (ad 27)) (C := RX8) (T := TX8) (N := 39) hx hb hts hiX8 hown hK hP 12 hm rfl 20 (by decide) (hts (.fieldLink RX8 52 "VortexpinModel" "partThen" "[I") (List.mem_of_getElem? (i := 4) rfl)) (fun _ h9 => h9) rfl dX8_pulseOfTime_127 ?_
            refine lv_iload_n hx hb dX8_pulseOfTime_130 rfl (lv_at hl 2 rfl) ?_
            refine lv_iload_n hx hb dX8_pulseOfTime_131 rfl (lv_at hl 0 rfl) ?_
            refine lv_sipush (v := 1000) hx hb dX8_pulseOfTime_132 (by decide) ?_
            refine lv_icmp_le (tgt := 144) hx hb dX8_pulseOfTime_135 (by decide) (fun c135 => ?_) (fun c135 => ?_)
            · refine lv_iload_n hx hb dX8_pulseOfTime_144 rfl (lv_at hl 0 rfl) ?_
              refine va_iast hx hb hK hP hD hS 27 0 hA27 htI (by first | exact vp_in_nI (by omega) (by omega) | assumption) dX8_pulseOfTime_145 (fun H locs hP hD hS => ?_)
              have hm := va_gs (k := 27) (e := (ad 27, .inl (cI, 12, .inl (upd (cSpr (z 21) (F 26) (F 27) i) (nI i).toNatClampNeg ((((((F 26) i) + (0 : Int32)) + (0 : Int32)) + ((((F 26) (i + 1)) - ((F 26) i)) / (8 : Int32))) - ((((F 26) i) - (4 : Int32)) / (16 : Int32))))))) (by decide) hm
              have hA26 := va_gs (k := 27) (e := (ad 27, .inl (cI, 12, .inl (upd (cSpr (z 21) (F 26) (F 27) i) (nI i).toNatClampNeg ((((((F 26) i) + (0 : Int32)) + (0 : Int32)) + ((((F 26) (i + 1)) - ((F 26) i)) / (8 : Int32))) - ((((F 26) i) - (4 : Int32)) / (16 : Int32))))))) (by decide) hA26
              have hA27 := va_ge (e := (ad 27, .inl (cI, 12, .inl (upd (cSpr (z 21) (F 26) (F 27) i) (nI i).toNatClampNeg ((((((F 26) i) + (0 : Int32)) + (0 : Int32)) + ((((F 26) (i + 1)) - ((F 26) i)) / (8 : Int32))) - ((((F 26) i) - (4 : Int32)) / (16 : Int32))))))) hA27
              refine lv_iinc (v := nI (i + 1)) (lv' := [(1, .int (nI (i + 1))), (2, .int ((((((F 26) i) + (0 : Int32)) + (0 : Int32)) + ((((F 26) (i + 1)) - ((F 26) i)) / (8 : Int32))) - ((((F 26) i) - (4 : Int32)) / (16 : Int32)))), (0, .ref am)]) hx hb dX8_pulseOfTime_146 hl (k := 2) rfl (nI_1 i) (by decide) rfl (fun ls hl => ?_)
              refine lv_goto (tgt := 13) hx hb dX8_pulseOfTime_149 (by decide) ?_
              have ew : (ws.set 27 (ad 27, .inl (cI, 12, .inl (cSpr (z 21) (F 26) (F 27) i)))).set 27 (ad 27, .inl (cI, 12, .inl (upd (cSpr (z 21) (F 26) (F 27) i) (nI i).toNatClampNeg ((((((F 26) i) + (0 : Int32)) + (0 : Int32)) + ((((F 26) (i + 1)) - ((F 26) i)) / (8 : Int32))) - ((((F 26) i) - (4 : Int32)) / (16 : Int32)))))) = ws.set 27 (ad 27, .inl (cI, 12, .inl (cSpr (z 21) (F 26) (F 27) (i + 1)))) := by subst h27; have e9 := mV_eq (z 21) (F 26) hlti; unfold mV4 mV3 mV2 mV1 at e9; simp only [(eq_true c30), c54, c85, ↓reduceIte] at e9; rw [nI_clamp (show i < 2 ^ 31 by omega), List.set_set, ← cSpr_s, ← e9, jmin_a c135]
              have hP : va_P G vwCl ((ws.set 27 (ad 27, .inl (cI, 12, .inl (cSpr (z 21) (F 26) (F 27) i)))).set 27 (ad 27, .inl (cI, 12, .inl (upd (cSpr (z 21) (F 26) (F 27) i) (nI i).toNatClampNeg ((((((F 26) i) + (0 : Int32)) + (0 : Int32)) + ((((F 26) (i + 1)) - ((F 26) i)) / (8 : Int32))) - ((((F 26) i) - (4 : Int32)) / (16 : Int32))))))) H := hP
              have hD : va_D A ((ws.set 27 (ad 27, .inl (cI, 12, .inl (cSpr (z 21) (F 26) (F 27) i)))).set 27 (ad 27, .inl (cI, 12, .inl (upd (cSpr (z 21) (F 26) (F 27) i) (nI i).toNatClampNeg ((((((F 26) i) + (0 : Int32)) + (0 : Int32)) + ((((F 26) (i + 1)) - ((F 26) i)) / (8 : Int32))) - ((((F 26) i) - (4 : Int32)) / (16 : Int32))))))) := hD
              rw [ew] at hP hD
              exact ihi H _ ls hlti (trivial) hP hD hS (lv_sub hl [2, 0] rfl)
            · refine lv_sipush (v := 1000) hx hb dX8_pulseOfTime_138 (by decide) ?_
              refine lv_goto (tgt := 145) hx hb dX8_pulseOfTime_141 (by decide) ?_
              refine va_iast hx hb hK hP hD hS 27 0 hA27 htI (by first | exact vp_in_nI (by omega) (by omega) | assumption) dX8_pulseOfTime_145 (fun H locs hP hD hS => ?_)
              have hm := va_gs (k := 27) (e := (ad 27, .inl (cI, 12, .inl (upd (cSpr (z 21) (F 26) (F 27) i) (nI i).toNatClampNeg (1000 : Int32))))) (by decide) hm
              have hA26 := va_gs (k := 27) (e := (ad 27, .inl (cI, 12, .inl (upd (cSpr (z 21) (F 26) (F 27) i) (nI i).toNatClampNeg (1000 : Int32))))) (by decide) hA26
              have hA27 := va_ge (e := (ad 27, .inl (cI, 12, .inl (upd (cSpr (z 21) (F 26) (F 27) i) (nI i).toNatClampNeg (1000 : Int32))))) hA27
              refine lv_iinc (v := nI (i + 1)) (lv' := [(1, .int (nI (i + 1))), (2, .int ((((((F 26) i) + (0 : Int32)) + (0 : Int32)) + ((((F 26) (i + 1)) - ((F 26) i)) / (8 : Int32))) - ((((F 26) i) - (4 : Int32)) / (16 : Int32)))), (0, .ref am)]) hx hb dX8_pulseOfTime_146 hl (k := 2) rfl (nI_1 i) (by decide) rfl (fun ls hl => ?_)
              refine lv_goto (tgt := 13) hx hb dX8_pulseOfTime_149 (by decide) ?_
              have ew : (ws.set 27 (ad 27, .inl (cI, 12, .inl (cSpr (z 21) (F 26) (F 27) i)))).set 27 (ad 27, .inl (cI, 12, .inl (upd (cSpr (z 21) (F 26) (F 27) i) (nI i).toNatClampNeg (1000 : Int32)))) = ws.set 27 (ad 27, .inl (cI, 12, .inl (cSpr (z 21) (F 26) (F 27) (i + 1)))) := by subst h27; have e9 := mV_eq (z 21) (F 26) hlti; unfold mV4 mV3 mV2 mV1 at e9; simp only [(eq_true c30), c54, c85, ↓reduceIte] at e9; rw [nI_clamp (show i < 2 ^ 31 by omega), List.set_set, ← cSpr_s, ← e9, jmin_b c135]
              have hP : va_P G vwCl ((ws.set 27 (ad 27, .inl (cI, 12, .inl (cSpr (z 21) (F 26) (F 27) i)))).set 27 (ad 27, .inl (cI, 12, .inl (upd (cSpr (z 21) (F 26) (F 27) i) (nI i).toNatClampNeg (1000 : Int32))))) H := hP
              have hD : va_D A ((ws.set 27 (ad 27, .inl (cI, 12, .inl (cSpr (z 21) (F 26) (F 27) i)))).set 27 (ad 27, .inl (cI, 12, .inl (upd (cSpr (z 21) (F 26) (F 27) i) (nI i).toNatClampNeg (1000 : Int32))))) := hD
              rw [ew] at hP hD
              exact ihi H _ ls hlti (trivial) hP hD hS (lv_sub hl [2, 0] rfl)
        · refine lv_aload_n hx hb dX8_pulseOfTime_57 rfl (lv_at hl 1 rfl) ?_
          refine va_get (D := G) (ci := 9) (v := .ref (ad 26)) (C := RX8) (T := TX8) (N := 39) hx hb hts hiX8 hown hK hP 12 hm rfl 19 (by decide) (hts (.fieldLink RX8 49 "VortexpinModel" "part" "[I") (List.mem_of_getElem? (i := 2) rfl)) (fun _ h9 => h9) rfl dX8_pulseOfTime_58 ?_
          refine lv_iload_n hx hb dX8_pulseOfTime_61 rfl (lv_at hl 2 rfl) ?_
          refine lv_iconst (v := 1) hx hb dX8_pulseOfTime_62 (by decide) ?_
          refine lv_isub hx hb dX8_pulseOfTime_63 ?_
          refine va_iald hx hb hK hP 26 0 hA26 htI (by rw [nI_m1' (nI_pos0 c54)]; exact vp_in_nI (by omega) (by omega)) dX8_pulseOfTime_64 ?_
          refine rd_i (j := i - 1) (by rw [nI_m1' (nI_pos0 c54)]; exact nI_clamp (by omega)) ?_
          refine lv_aload_n hx hb dX8_pulseOfTime_65 rfl (lv_at hl 1 rfl) ?_
          refine va_get (D := G) (ci := 9) (v := .ref (ad 26)) (C := RX8) (T := TX8) (N := 39) hx hb hts hiX8 hown hK hP 12 hm rfl 19 (by decide) (hts (.fieldLink RX8 49 "VortexpinModel" "part" "[I") (List.mem_of_getElem? (i := 2) rfl)) (fun _ h9 => h9) rfl dX8_pulseOfTime_66 ?_
          refine lv_iload_n hx hb dX8_pulseOfTime_69 rfl (lv_at hl 2 rfl) ?_
          refine va_iald hx hb hK hP 26 0 hA26 htI (by first | exact vp_in_nI (by omega) (by omega) | assumption) dX8_pulseOfTime_70 ?_
          refine rd_i (j := i) (nI_clamp (by omega)) ?_
          refine lv_isub hx hb dX8_pulseOfTime_71 ?_
          refine lv_bipush (v := 8) hx hb dX8_pulseOfTime_72 (by decide) ?_
          refine lv_idiv hx hb dX8_pulseOfTime_74 (by decide) ?_
          refine lv_goto (tgt := 79) hx hb dX8_pulseOfTime_75 (by decide) ?_
          refine lv_iadd hx hb dX8_pulseOfTime_79 ?_
          refine lv_istore_n (lv' := [(2, .int ((((F 26) i) + (0 : Int32)) + ((((F 26) (i - 1)) - ((F 26) i)) / (8 : Int32)))), (0, .ref am), (1, .int (nI i))]) hx hb dX8_pulseOfTime_80 rfl hl (by decide) rfl (fun ls hl => ?_)
          refine lv_iload_n hx hb dX8_pulseOfTime_81 rfl (lv_at hl 0 rfl) ?_
          refine lv_iload_n hx hb dX8_pulseOfTime_82 rfl (lv_at hl 2 rfl) ?_
          refine lv_bipush (v := 11) hx hb dX8_pulseOfTime_83 (by decide) ?_
          refine lv_icmp_ge (tgt := 109) hx hb dX8_pulseOfTime_85 (by decide) (fun c85 => ?_) (fun c85 => ?_)
          · refine lv_iconst (v := 0) hx hb dX8_pulseOfTime_109 (by decide) ?_
            refine lv_iadd hx hb dX8_pulseOfTime_110 ?_
            refine lv_istore_n (lv' := [(2, .int (((((F 26) i) + (0 : Int32)) + ((((F 26) (i - 1)) - ((F 26) i)) / (8 : Int32))) + (0 : Int32))), (0, .ref am), (1, .int (nI i))]) hx hb dX8_pulseOfTime_111 rfl hl (by decide) rfl (fun ls hl => ?_)
            refine lv_iload_n hx hb dX8_pulseOfTime_112 rfl (lv_at hl 0 rfl) ?_
            refine lv_aload_n hx hb dX8_pulseOfTime_113 rfl (lv_at hl 1 rfl) ?_
            refine va_get (D := G) (ci := 9) (v := .ref (ad 26)) (C := RX8) (T := TX8) (N := 39) hx hb hts hiX8 hown hK hP 12 hm rfl 19 (by decide) (hts (.fieldLink RX8 49 "VortexpinModel" "part" "[I") (List.mem_of_getElem? (i := 2) rfl)) (fun _ h9 => h9) rfl dX8_pulseOfTime_114 ?_
            refine lv_iload_n hx hb dX8_pulseOfTime_117 rfl (lv_at hl 2 rfl) ?_
            refine va_iald hx hb hK hP 26 0 hA26 htI (by first | exact vp_in_nI (by omega) (by omega) | assumption) dX8_pulseOfTime_118 ?_
            refine rd_i (j := i) (nI_clamp (by omega)) ?_
            refine lv_iconst (v := 4) hx hb dX8_pulseOfTime_119 (by decide) ?_
            refine lv_isub hx hb dX8_pulseOfTime_120 ?_
            refine lv_bipush (v := 16) hx hb dX8_pulseOfTime_121 (by decide) ?_
            refine lv_idiv hx hb dX8_pulseOfTime_123 (by decide) ?_
            refine lv_isub hx hb dX8_pulseOfTime_124 ?_
            refine lv_istore_n (lv' := [(2, .int ((((((F 26) i) + (0 : Int32)) + ((((F 26) (i - 1)) - ((F 26) i)) / (8 : Int32))) + (0 : Int32)) - ((((F 26) i) - (4 : Int32)) / (16 : Int32)))), (0, .ref am), (1, .int (nI i))]) hx hb dX8_pulseOfTime_125 rfl hl (by decide) rfl (fun ls hl => ?_)
            refine lv_aload_n hx hb dX8_pulseOfTime_126 rfl (lv_at hl 1 rfl) ?_
            refine va_get (D := G) (ci := 9) (v := .ref (ad 27)) (C := RX8) (T := TX8) (N := 39) hx hb hts hiX8 hown hK hP 12 hm rfl 20 (by decide) (hts (.fieldLink RX8 52 "VortexpinModel" "partThen" "[I") (List.mem_of_getElem? (i := 4) rfl)) (fun _ h9 => h9) rfl dX8_pulseOfTime_127 ?_
            refine lv_iload_n hx hb dX8_pulseOfTime_130 rfl (lv_at hl 2 rfl) ?_
            refine lv_iload_n hx hb dX8_pulseOfTime_131 rfl (lv_at hl 0 rfl) ?_
            refine lv_sipush (v := 1000) hx hb dX8_pulseOfTime_132 (by decide) ?_
            refine lv_icmp_le (tgt := 144) hx hb dX8_pulseOfTime_135 (by decide) (fun c135 => ?_) (fun c135 => ?_)
            · refine lv_iload_n hx hb dX8_pulseOfTime_144 rfl (lv_at hl 0 rfl) ?_
              refine va_iast hx hb hK hP hD hS 27 0 hA27 htI (by first | exact vp_in_nI (by omega) (by omega) | assumption) dX8_pulseOfTime_145 (fun H locs hP hD hS => ?_)
              have hm := va_gs (k := 27) (e := (ad 27, .inl (cI, 12, .inl (upd (cSpr (z 21) (F 26) (F 27) i) (nI i).toNatClampNeg ((((((F 26) i) + (0 : Int32)) + ((((F 26) (i - 1)) - ((F 26) i)) / (8 : Int32))) + (0 : Int32)) - ((((F 26) i) - (4 : Int32)) / (16 : Int32))))))) (by decide) hm
              have hA26 := va_gs (k := 27) (e := (ad 27, .inl (cI, 12, .inl (upd (cSpr (z 21) (F 26) (F 27) i) (nI i).toNatClampNeg ((((((F 26) i) + (0 : Int32)) + ((((F 26) (i - 1)) - ((F 26) i)) / (8 : Int32))) + (0 : Int32)) - ((((F 26) i) - (4 : Int32)) / (16 : Int32))))))) (by decide) hA26
              have hA27 := va_ge (e := (ad 27, .inl (cI, 12, .inl (upd (cSpr (z 21) (F 26) (F 27) i) (nI i).toNatClampNeg ((((((F 26) i) + (0 : Int32)) + ((((F 26) (i - 1)) - ((F 26) i)) / (8 : Int32))) + (0 : Int32)) - ((((F 26) i) - (4 : Int32)) / (16 : Int32))))))) hA27
              refine lv_iinc (v := nI (i + 1)) (lv' := [(1, .int (nI (i + 1))), (2, .int ((((((F 26) i) + (0 : Int32)) + ((((F 26) (i - 1)) - ((F 26) i)) / (8 : Int32))) + (0 : Int32)) - ((((F 26) i) - (4 : Int32)) / (16 : Int32)))), (0, .ref am)]) hx hb dX8_pulseOfTime_146 hl (k := 2) rfl (nI_1 i) (by decide) rfl (fun ls hl => ?_)
              refine lv_goto (tgt := 13) hx hb dX8_pulseOfTime_149 (by decide) ?_
              have ew : (ws.set 27 (ad 27, .inl (cI, 12, .inl (cSpr (z 21) (F 26) (F 27) i)))).set 27 (ad 27, .inl (cI, 12, .inl (upd (cSpr (z 21) (F 26) (F 27) i) (nI i).toNatClampNeg ((((((F 26) i) + (0 : Int32)) + ((((F 26) (i - 1)) - ((F 26) i)) / (8 : Int32))) + (0 : Int32)) - ((((F 26) i) - (4 : Int32)) / (16 : Int32)))))) = ws.set 27 (ad 27, .inl (cI, 12, .inl (cSpr (z 21) (F 26) (F 27) (i + 1)))) := by subst h27; have e9 := mV_eq (z 21) (F 26) hlti; unfold mV4 mV3 mV2 mV1 at e9; simp only [(eq_true c30), c54, c85, ↓reduceIte] at e9; rw [nI_clamp (show i < 2 ^ 31 by omega), List.set_set, ← cSpr_s, ← e9, jmin_a c135]
              have hP : va_P G vwCl ((ws.set 27 (ad 27, .inl (cI, 12, .inl (cSpr (z 21) (F 26) (F 27) i)))).set 27 (ad 27, .inl (cI, 12, .inl (upd (cSpr (z 21) (F 26) (F 27) i) (nI i).toNatClampNeg ((((((F 26) i) + (0 : Int32)) + ((((F 26) (i - 1)) - ((F 26) i)) / (8 : Int32))) + (0 : Int32)) - ((((F 26) i) - (4 : Int32)) / (16 : Int32))))))) H := hP
              have hD : va_D A ((ws.set 27 (ad 27, .inl (cI, 12, .inl (cSpr (z 21) (F 26) (F 27) i)))).set 27 (ad 27, .inl (cI, 12, .inl (upd (cSpr (z 21) (F 26) (F 27) i) (nI i).toNatClampNeg ((((((F 26) i) + (0 : Int32)) + ((((F 26) (i - 1)) - ((F 26) i)) / (8 : Int32))) + (0 : Int32)) - ((((F 26) i) - (4 : Int32)) / (16 : Int32))))))) := hD
              rw [ew] at hP hD
              exact ihi H _ ls hlti (trivial) hP hD hS (lv_sub hl [2, 0] rfl)
            · refine lv_sipush (v := 1000) hx hb dX8_pulseOfTime_138 (by decide) ?_
              refine lv_goto (tgt := 145) hx hb dX8_pulseOfTime_141 (by decide) ?_
              refine va_iast hx hb hK hP hD hS 27 0 hA27 htI (by first | exact vp_in_nI (by omega) (by omega) | assumption) dX8_pulseOfTime_145 (fun H locs hP hD hS => ?_)
              have hm := va_gs (k := 27) (e := (ad 27, .inl (cI, 12, .inl (upd (cSpr (z 21) (F 26) (F 27) i) (nI i).toNatClampNeg (1000 : Int32))))) (by decide) hm
              have hA26 := va_gs (k := 27) (e := (ad 27, .inl (cI, 12, .inl (upd (cSpr (z 21) (F 26) (F 27) i) (nI i).toNatClampNeg (1000 : Int32))))) (by decide) hA26
              have hA27 := va_ge (e := (ad 27, .inl (cI, 12, .inl (upd (cSpr (z 21) (F 26) (F 27) i) (nI i).toNatClampNeg (1000 : Int32))))) hA27
              refine lv_iinc (v := nI (i + 1)) (lv' := [(1, .int (nI (i + 1))), (2, .int ((((((F 26) i) + (0 : Int32)) + ((((F 26) (i - 1)) - ((F 26) i)) / (8 : Int32))) + (0 : Int32)) - ((((F 26) i) - (4 : Int32)) / (16 : Int32)))), (0, .ref am)]) hx hb dX8_pulseOfTime_146 hl (k := 2) rfl (nI_1 i) (by decide) rfl (fun ls hl => ?_)
              refine lv_goto (tgt := 13) hx hb dX8_pulseOfTime_149 (by decide) ?_
              have ew : (ws.set 27 (ad 27, .inl (cI, 12, .inl (cSpr (z 21) (F 26) (F 27) i)))).set 27 (ad 27, .inl (cI, 12, .inl (upd (cSpr (z 21) (F 26) (F 27) i) (nI i).toNatClampNeg (1000 : Int32)))) = ws.set 27 (ad 27, .inl (cI, 12, .inl (cSpr (z 21) (F 26) (F 27) (i + 1)))) := by subst h27; have e9 := mV_eq (z 21) (F 26) hlti; unfold mV4 mV3 mV2 mV1 at e9; simp only [(eq_true c30), c54, c85, ↓reduceIte] at e9; rw [nI_clamp (show i < 2 ^ 31 by omega), List.set_set, ← cSpr_s, ← e9, jmin_b c135]
              have hP : va_P G vwCl ((ws.set 27 (ad 27, .inl (cI, 12, .inl (cSpr (z 21) (F 26) (F 27) i)))).set 27 (ad 27, .inl (cI, 12, .inl (upd (cSpr (z 21) (F 26) (F 27) i) (nI i).toNatClampNeg (1000 : Int32))))) H := hP
              have hD : va_D A ((ws.set 27 (ad 27, .inl (cI, 12, .inl (cSpr (z 21) (F 26) (F 27) i)))).set 27 (ad 27, .inl (cI, 12, .inl (upd (cSpr (z 21) (F 26) (F 27) i) (nI i).toNatClampNeg (1000 : Int32))))) := hD
              rw [ew] at hP hD
              exact ihi H _ ls hlti (trivial) hP hD hS (lv_sub hl [2, 0] rfl)
          · refine lv_aload_n hx hb dX8_pulseOfTime_88 rfl (lv_at hl 1 rfl) ?_
            refine va_get (D := G) (ci := 9) (v := .ref (ad 26)) (C := RX8) (T := TX8) (N := 39) hx hb hts hiX8 hown hK hP 12 hm rfl 19 (by decide) (hts (.fieldLink RX8 49 "VortexpinModel" "part" "[I") (List.mem_of_getElem? (i := 2) rfl)) (fun _ h9 => h9) rfl dX8_pulseOfTime_89 ?_
            refine lv_iload_n hx hb dX8_pulseOfTime_92 rfl (lv_at hl 2 rfl) ?_
            refine lv_iconst (v := 1) hx hb dX8_pulseOfTime_93 (by decide) ?_
            refine lv_iadd hx hb dX8_pulseOfTime_94 ?_
            refine va_iald hx hb hK hP 26 0 hA26 htI (by rw [nI_1]; exact vp_in_nI (by have := mt (nI_leI (a := 11) (b := i) (by omega) (by omega)).mpr c85; omega) (by omega)) dX8_pulseOfTime_95 ?_
            refine rd_i (j := i + 1) (by rw [nI_1]; exact nI_clamp (by omega)) ?_
            refine lv_aload_n hx hb dX8_pulseOfTime_96 rfl (lv_at hl 1 rfl) ?_
            refine va_get (D := G) (ci := 9) (v := .ref (ad 26)) (C := RX8) (T := TX8) (N := 39) hx hb hts hiX8 hown hK hP 12 hm rfl 19 (by decide) (hts (.fieldLink RX8 49 "VortexpinModel" "part" "[I") (List.mem_of_getElem? (i := 2) rfl)) (fun _ h9 => h9) rfl dX8_pulseOfTime_97 ?_
            refine lv_iload_n hx hb dX8_pulseOfTime_100 rfl (lv_at hl 2 rfl) ?_
            refine va_iald hx hb hK hP 26 0 hA26 htI (by first | exact vp_in_nI (by omega) (by omega) | assumption) dX8_pulseOfTime_101 ?_
            refine rd_i (j := i) (nI_clamp (by omega)) ?_
            refine lv_isub hx hb dX8_pulseOfTime_102 ?_
            refine lv_bipush (v := 8) hx hb dX8_pulseOfTime_103 (by decide) ?_
            refine lv_idiv hx hb dX8_pulseOfTime_105 (by decide) ?_
            refine lv_goto (tgt := 110) hx hb dX8_pulseOfTime_106 (by decide) ?_
            refine lv_iadd hx hb dX8_pulseOfTime_110 ?_
            refine lv_istore_n (lv' := [(2, .int (((((F 26) i) + (0 : Int32)) + ((((F 26) (i - 1)) - ((F 26) i)) / (8 : Int32))) + ((((F 26) (i + 1)) - ((F 26) i)) / (8 : Int32)))), (0, .ref am), (1, .int (nI i))]) hx hb dX8_pulseOfTime_111 rfl hl (by decide) rfl (fun ls hl => ?_)
            refine lv_iload_n hx hb dX8_pulseOfTime_112 rfl (lv_at hl 0 rfl) ?_
            refine lv_aload_n hx hb dX8_pulseOfTime_113 rfl (lv_at hl 1 rfl) ?_
            refine va_get (D := G) (ci := 9) (v := .ref (ad 26)) (C := RX8) (T := TX8) (N := 39) hx hb hts hiX8 hown hK hP 12 hm rfl 19 (by decide) (hts (.fieldLink RX8 49 "VortexpinModel" "part" "[I") (List.mem_of_getElem? (i := 2) rfl)) (fun _ h9 => h9) rfl dX8_pulseOfTime_114 ?_
            refine lv_iload_n hx hb dX8_pulseOfTime_117 rfl (lv_at hl 2 rfl) ?_
            refine va_iald hx hb hK hP 26 0 hA26 htI (by first | exact vp_in_nI (by omega) (by omega) | assumption) dX8_pulseOfTime_118 ?_
            refine rd_i (j := i) (nI_clamp (by omega)) ?_
            refine lv_iconst (v := 4) hx hb dX8_pulseOfTime_119 (by decide) ?_
            refine lv_isub hx hb dX8_pulseOfTime_120 ?_
            refine lv_bipush (v := 16) hx hb dX8_pulseOfTime_121 (by decide) ?_
            refine lv_idiv hx hb dX8_pulseOfTime_123 (by decide) ?_
            refine lv_isub hx hb dX8_pulseOfTime_124 ?_
            refine lv_istore_n (lv' := [(2, .int ((((((F 26) i) + (0 : Int32)) + ((((F 26) (i - 1)) - ((F 26) i)) / (8 : Int32))) + ((((F 26) (i + 1)) - ((F 26) i)) / (8 : Int32))) - ((((F 26) i) - (4 : Int32)) / (16 : Int32)))), (0, .ref am), (1, .int (nI i))]) hx hb dX8_pulseOfTime_125 rfl hl (by decide) rfl (fun ls hl => ?_)
            refine lv_aload_n hx hb dX8_pulseOfTime_126 rfl (lv_at hl 1 rfl) ?_
            refine va_get (D := G) (ci := 9) (v := .ref (ad 27)) (C := RX8) (T := TX8) (N := 39) hx hb hts hiX8 hown hK hP 12 hm rfl 20 (by decide) (hts (.fieldLink RX8 52 "VortexpinModel" "partThen" "[I") (List.mem_of_getElem? (i := 4) rfl)) (fun _ h9 => h9) rfl dX8_pulseOfTime_127 ?_
            refine lv_iload_n hx hb dX8_pulseOfTime_130 rfl (lv_at hl 2 rfl) ?_
            refine lv_iload_n hx hb dX8_pulseOfTime_131 rfl (lv_at hl 0 rfl) ?_
            refine lv_sipush (v := 1000) hx hb dX8_pulseOfTime_132 (by decide) ?_
            refine lv_icmp_le (tgt := 144) hx hb dX8_pulseOfTime_135 (by decide) (fun c135 => ?_) (fun c135 => ?_)
            · refine lv_iload_n hx hb dX8_pulseOfTime_144 rfl (lv_at hl 0 rfl) ?_
              refine va_iast hx hb hK hP hD hS 27 0 hA27 htI (by first | exact vp_in_nI (by omega) (by omega) | assumption) dX8_pulseOfTime_145 (fun H locs hP hD hS => ?_)
              have hm := va_gs (k := 27) (e := (ad 27, .inl (cI, 12, .inl (upd (cSpr (z 21) (F 26) (F 27) i) (nI i).toNatClampNeg ((((((F 26) i) + (0 : Int32)) + ((((F 26) (i - 1)) - ((F 26) i)) / (8 : Int32))) + ((((F 26) (i + 1)) - ((F 26) i)) / (8 : Int32))) - ((((F 26) i) - (4 : Int32)) / (16 : Int32))))))) (by decide) hm
              have hA26 := va_gs (k := 27) (e := (ad 27, .inl (cI, 12, .inl (upd (cSpr (z 21) (F 26) (F 27) i) (nI i).toNatClampNeg ((((((F 26) i) + (0 : Int32)) + ((((F 26) (i - 1)) - ((F 26) i)) / (8 : Int32))) + ((((F 26) (i + 1)) - ((F 26) i)) / (8 : Int32))) - ((((F 26) i) - (4 : Int32)) / (16 : Int32))))))) (by decide) hA26
              have hA27 := va_ge (e := (ad 27, .inl (cI, 12, .inl (upd (cSpr (z 21) (F 26) (F 27) i) (nI i).toNatClampNeg ((((((F 26) i) + (0 : Int32)) + ((((F 26) (i - 1)) - ((F 26) i)) / (8 : Int32))) + ((((F 26) (i + 1)) - ((F 26) i)) / (8 : Int32))) - ((((F 26) i) - (4 : Int32)) / (16 : Int32))))))) hA27
              refine lv_iinc (v := nI (i + 1)) (lv' := [(1, .int (nI (i + 1))), (2, .int ((((((F 26) i) + (0 : Int32)) + ((((F 26) (i - 1)) - ((F 26) i)) / (8 : Int32))) + ((((F 26) (i + 1)) - ((F 26) i)) / (8 : Int32))) - ((((F 26) i) - (4 : Int32)) / (16 : Int32)))), (0, .ref am)]) hx hb dX8_pulseOfTime_146 hl (k := 2) rfl (nI_1 i) (by decide) rfl (fun ls hl => ?_)
              refine lv_goto (tgt := 13) hx hb dX8_pulseOfTime_149 (by decide) ?_
              have ew : (ws.set 27 (ad 27, .inl (cI, 12, .inl (cSpr (z 21) (F 26) (F 27) i)))).set 27 (ad 27, .inl (cI, 12, .inl (upd (cSpr (z 21) (F 26) (F 27) i) (nI i).toNatClampNeg ((((((F 26) i) + (0 : Int32)) + ((((F 26) (i - 1)) - ((F 26) i)) / (8 : Int32))) + ((((F 26) (i + 1)) - ((F 26) i)) / (8 : Int32))) - ((((F 26) i) - (4 : Int32)) / (16 : Int32)))))) = ws.set 27 (ad 27, .inl (cI, 12, .inl (cSpr (z 21) (F 26) (F 27) (i + 1)))) := by subst h27; have e9 := mV_eq (z 21) (F 26) hlti; unfold mV4 mV3 mV2 mV1 at e9; simp only [(eq_true c30), c54, c85, ↓reduceIte] at e9; rw [nI_clamp (show i < 2 ^ 31 by omega), List.set_set, ← cSpr_s, ← e9, jmin_a c135]
              have hP : va_P G vwCl ((ws.set 27 (ad 27, .inl (cI, 12, .inl (cSpr (z 21) (F 26) (F 27) i)))).set 27 (ad 27, .inl (cI, 12, .inl (upd (cSpr (z 21) (F 26) (F 27) i) (nI i).toNatClampNeg ((((((F 26) i) + (0 : Int32)) + ((((F 26) (i - 1)) - ((F 26) i)) / (8 : Int32))) + ((((F 26) (i + 1)) - ((F 26) i)) / (8 : Int32))) - ((((F 26) i) - (4 : Int32)) / (16 : Int32))))))) H := hP
              have hD : va_D A ((ws.set 27 (ad 27, .inl (cI, 12, .inl (cSpr (z 21) (F 26) (F 27) i)))).set 27 (ad 27, .inl (cI, 12, .inl (upd (cSpr (z 21) (F 26) (F 27) i) (nI i).toNatClampNeg ((((((F 26) i) + (0 : Int32)) + ((((F 26) (i - 1)) - ((F 26) i)) / (8 : Int32))) + ((((F 26) (i + 1)) - ((F 26) i)) / (8 : Int32))) - ((((F 26) i) - (4 : Int32)) / (16 : Int32))))))) := hD
              rw [ew] at hP hD
              exact ihi H _ ls hlti (trivial) hP hD hS (lv_sub hl [2, 0] rfl)
            · refine lv_sipush (v := 1000) hx hb dX8_pulseOfTime_138 (by decide) ?_
              refine lv_goto (tgt := 145) hx hb dX8_pulseOfTime_141 (by decide) ?_
              refine va_iast hx hb hK hP hD hS 27 0 hA27 htI (by first | exact vp_in_nI (by omega) (by omega) | assumption) dX8_pulseOfTime_145 (fun H locs hP hD hS => ?_)
              have hm := va_gs (k := 27) (e := (ad 27, .inl (cI, 12, .inl (upd (cSpr (z 21) (F 26) (F 27) i) (nI i).toNatClampNeg (1000 : Int32))))) (by decide) hm
              have hA26 := va_gs (k := 27) (e := (ad 27, .inl (cI, 12, .inl (upd (cSpr (z 21) (F 26) (F 27) i) (nI i).toNatClampNeg (1000 : Int32))))) (by decide) hA26
              have hA27 := va_ge (e := (ad 27, .inl (cI, 12, .inl (upd (cSpr (z 21) (F 26) (F 27) i) (nI i).toNatClampNeg (1000 : Int32))))) hA27
              refine lv_iinc (v := nI (i + 1)) (lv' := [(1, .int (nI (i + 1))), (2, .int ((((((F 26) i) + (0 : Int32)) + ((((F 26) (i - 1)) - ((F 26) i)) / (8 : Int32))) + ((((F 26) (i + 1)) - ((F 26) i)) / (8 : Int32))) - ((((F 26) i) - (4 : Int32)) / (16 : Int32)))), (0, .ref am)]) hx hb dX8_pulseOfTime_146 hl (k := 2) rfl (nI_1 i) (by decide) rfl (fun ls hl => ?_)
              refine lv_goto (tgt := 13) hx hb dX8_pulseOfTime_149 (by decide) ?_
              have ew : (ws.set 27 (ad 27, .inl (cI, 12, .inl (cSpr (z 21) (F 26) (F 27) i)))).set 27 (ad 27, .inl (cI, 12, .inl (upd (cSpr (z 21) (F 26) (F 27) i) (nI i).toNatClampNeg (1000 : Int32)))) = ws.set 27 (ad 27, .inl (cI, 12, .inl (cSpr (z 21) (F 26) (F 27) (i + 1)))) := by subst h27; have e9 := mV_eq (z 21) (F 26) hlti; unfold mV4 mV3 mV2 mV1 at e9; simp only [(eq_true c30), c54, c85, ↓reduceIte] at e9; rw [nI_clamp (show i < 2 ^ 31 by omega), List.set_set, ← cSpr_s, ← e9, jmin_b c135]
              have hP : va_P G vwCl ((ws.set 27 (ad 27, .inl (cI, 12, .inl (cSpr (z 21) (F 26) (F 27) i)))).set 27 (ad 27, .inl (cI, 12, .inl (upd (cSpr (z 21) (F 26) (F 27) i) (nI i).toNatClampNeg (1000 : Int32))))) H := hP
              have hD : va_D A ((ws.set 27 (ad 27, .inl (cI, 12, .inl (cSpr (z 21) (F 26) (F 27) i)))).set 27 (ad 27, .inl (cI, 12, .inl (upd (cSpr (z 21) (F 26) (F 27) i) (nI i).toNatClampNeg (1000 : Int32))))) := hD
              rw [ew] at hP hD
              exact ihi H _ ls hlti (trivial) hP hD hS (lv_sub hl [2, 0] rfl)
      · refine lv_aload_n hx hb dX8_pulseOfTime_33 rfl (lv_at hl 0 rfl) ?_
        refine va_get (D := G) (ci := 9) (v := .int (z 21)) (C := RX8) (T := TX8) (N := 39) hx hb hts hiX8 hown hK hP 12 hm rfl 21 (by decide) (hts (.fieldLink RX8 147 "VortexpinModel" "current" "I") (List.mem_of_getElem? (i := 3) rfl)) (fun _ h9 => h9) rfl dX8_pulseOfTime_34 ?_
        refine lv_aload_n hx hb dX8_pulseOfTime_37 rfl (lv_at hl 0 rfl) ?_
        refine va_get (D := G) (ci := 9) (v := .int (z 21)) (C := RX8) (T := TX8) (N := 39) hx hb hts hiX8 hown hK hP 12 hm rfl 21 (by decide) (hts (.fieldLink RX8 147 "VortexpinModel" "current" "I") (List.mem_of_getElem? (i := 3) rfl)) (fun _ h9 => h9) rfl dX8_pulseOfTime_38 ?_
        refine lv_imul hx hb dX8_pulseOfTime_41 ?_
        refine lv_sipush (v := 2000) hx hb dX8_pulseOfTime_42 (by decide) ?_
        refine lv_idiv hx hb dX8_pulseOfTime_45 (by decide) ?_
        refine lv_goto (tgt := 50) hx hb dX8_pulseOfTime_46 (by decide) ?_
        refine lv_iadd hx hb dX8_pulseOfTime_50 ?_
        refine lv_istore_n (lv' := [(2, .int (((F 26) i) + (((z 21) * (z 21)) / (2000 : Int32)))), (0, .ref am), (1, .int (nI i))]) hx hb dX8_pulseOfTime_51 rfl hl (by decide) rfl (fun ls hl => ?_)
        refine lv_iload_n hx hb dX8_pulseOfTime_52 rfl (lv_at hl 0 rfl) ?_
        refine lv_iload_n hx hb dX8_pulseOfTime_53 rfl (lv_at hl 2 rfl) ?_
        refine lv_if_le (tgt := 78) hx hb dX8_pulseOfTime_54 (by decide) (fun c54 => ?_) (fun c54 => ?_)
        · refine lv_iconst (v := 0) hx hb dX8_pulseOfTime_78 (by decide) ?_
          refine lv_iadd hx hb dX8_pulseOfTime_79 ?_
          refine lv_istore_n (lv' := [(2, .int ((((F 26) i) + (((z 21) * (z 21)) / (2000 : Int32))) + (0 : Int32))), (0, .ref am), (1, .int (nI i))]) hx hb dX8_pulseOfTime_80 rfl hl (by decide) rfl (fun ls hl => ?_)
          refine lv_iload_n hx hb dX8_pulseOfTime_81 rfl (lv_at hl 0 rfl) ?_
          refine lv_iload_n hx hb dX8_pulseOfTime_82 rfl (lv_at hl 2 rfl) ?_
          refine lv_bipush (v := 11) hx hb dX8_pulseOfTime_83 (by decide) ?_
          refine lv_icmp_ge (tgt := 109) hx hb dX8_pulseOfTime_85 (by decide) (fun c85 => ?_) (fun c85 => ?_)
          · refine lv_iconst (v := 0) hx hb dX8_pulseOfTime_109 (by decide) ?_
            refine lv_iadd hx hb dX8_pulseOfTime_110 ?_
            refine lv_istore_n (lv' := [(2, .int (((((F 26) i) + (((z 21) * (z 21)) / (2000 : Int32))) + (0 : Int32)) + (0 : Int32))), (0, .ref am), (1, .int (nI i))]) hx hb dX8_pulseOfTime_111 rfl hl (by decide) rfl (fun ls hl => ?_)
            refine lv_iload_n hx hb dX8_pulseOfTime_112 rfl (lv_at hl 0 rfl) ?_
            refine lv_aload_n hx hb dX8_pulseOfTime_113 rfl (lv_at hl 1 rfl) ?_
            refine va_get (D := G) (ci := 9) (v := .ref (ad 26)) (C := RX8) (T := TX8) (N := 39) hx hb hts hiX8 hown hK hP 12 hm rfl 19 (by decide) (hts (.fieldLink RX8 49 "VortexpinModel" "part" "[I") (List.mem_of_getElem? (i := 2) rfl)) (fun _ h9 => h9) rfl dX8_pulseOfTime_114 ?_
            refine lv_iload_n hx hb dX8_pulseOfTime_117 rfl (lv_at hl 2 rfl) ?_
            refine va_iald hx hb hK hP 26 0 hA26 htI (by first | exact vp_in_nI (by omega) (by omega) | assumption) dX8_pulseOfTime_118 ?_
            refine rd_i (j := i) (nI_clamp (by omega)) ?_
            refine lv_iconst (v := 4) hx hb dX8_pulseOfTime_119 (by decide) ?_
            refine lv_isub hx hb dX8_pulseOfTime_120 ?_
            refine lv_bipush (v := 16) hx hb dX8_pulseOfTime_121 (by decide) ?_
            refine lv_idiv hx hb dX8_pulseOfTime_123 (by decide) ?_
            refine lv_isub hx hb dX8_pulseOfTime_124 ?_
            refine lv_istore_n (lv' := [(2, .int ((((((F 26) i) + (((z 21) * (z 21)) / (2000 : Int32))) + (0 : Int32)) + (0 : Int32)) - ((((F 26) i) - (4 : Int32)) / (16 : Int32)))), (0, .ref am), (1, .int (nI i))]) hx hb dX8_pulseOfTime_125 rfl hl (by decide) rfl (fun ls hl => ?_)
            refine lv_aload_n hx hb dX8_pulseOfTime_126 rfl (lv_at hl 1 rfl) ?_
            refine va_get (D := G) (ci := 9) (v := .ref (ad 27)) (C := RX8) (T := TX8) (N := 39) hx hb hts hiX8 hown hK hP 12 hm rfl 20 (by decide) (hts (.fieldLink RX8 52 "VortexpinModel" "partThen" "[I") (List.mem_of_getElem? (i := 4) rfl)) (fun _ h9 => h9) rfl dX8_pulseOfTime_127 ?_
            refine lv_iload_n hx hb dX8_pulseOfTime_130 rfl (lv_at hl 2 rfl) ?_
            refine lv_iload_n hx hb dX8_pulseOfTime_131 rfl (lv_at hl 0 rfl) ?_
            refine lv_sipush (v := 1000) hx hb dX8_pulseOfTime_132 (by decide) ?_
            refine lv_icmp_le (tgt := 144) hx hb dX8_pulseOfTime_135 (by decide) (fun c135 => ?_) (fun c135 => ?_)
            · refine lv_iload_n hx hb dX8_pulseOfTime_144 rfl (lv_at hl 0 rfl) ?_
              refine va_iast hx hb hK hP hD hS 27 0 hA27 htI (by first | exact vp_in_nI (by omega) (by omega) | assumption) dX8_pulseOfTime_145 (fun H locs hP hD hS => ?_)
              have hm := va_gs (k := 27) (e := (ad 27, .inl (cI, 12, .inl (upd (cSpr (z 21) (F 26) (F 27) i) (nI i).toNatClampNeg ((((((F 26) i) + (((z 21) * (z 21)) / (2000 : Int32))) + (0 : Int32)) + (0 : Int32)) - ((((F 26) i) - (4 : Int32)) / (16 : Int32))))))) (by decide) hm
              have hA26 := va_gs (k := 27) (e := (ad 27, .inl (cI, 12, .inl (upd (cSpr (z 21) (F 26) (F 27) i) (nI i).toNatClampNeg ((((((F 26) i) + (((z 21) * (z 21)) / (2000 : Int32))) + (0 : Int32)) + (0 : Int32)) - ((((F 26) i) - (4 : Int32)) / (16 : Int32))))))) (by decide) hA26
              have hA27 := va_ge (e := (ad 27, .inl (cI, 12, .inl (upd (cSpr (z 21) (F 26) (F 27) i) (nI i).toNatClampNeg ((((((F 26) i) + (((z 21) * (z 21)) / (2000 : Int32))) + (0 : Int32)) + (0 : Int32)) - ((((F 26) i) - (4 : Int32)) / (16 : Int32))))))) hA27
              refine lv_iinc (v := nI (i + 1)) (lv' := [(1, .int (nI (i + 1))), (2, .int ((((((F 26) i) + (((z 21) * (z 21)) / (2000 : Int32))) + (0 : Int32)) + (0 : Int32)) - ((((F 26) i) - (4 : Int32)) / (16 : Int32)))), (0, .ref am)]) hx hb dX8_pulseOfTime_146 hl (k := 2) rfl (nI_1 i) (by decide) rfl (fun ls hl => ?_)
              refine lv_goto (tgt := 13) hx hb dX8_pulseOfTime_149 (by decide) ?_
              have ew : (ws.set 27 (ad 27, .inl (cI, 12, .inl (cSpr (z 21) (F 26) (F 27) i)))).set 27 (ad 27, .inl (cI, 12, .inl (upd (cSpr (z 21) (F 26) (F 27) i) (nI i).toNatClampNeg ((((((F 26) i) + (((z 21) * (z 21)) / (2000 : Int32))) + (0 : Int32)) + (0 : Int32)) - ((((F 26) i) - (4 : Int32)) / (16 : Int32)))))) = ws.set 27 (ad 27, .inl (cI, 12, .inl (cSpr (z 21) (F 26) (F 27) (i + 1)))) := by subst h27; have e9 := mV_eq (z 21) (F 26) hlti; unfold mV4 mV3 mV2 mV1 at e9; simp only [c30, c54, c85, ↓reduceIte] at e9; rw [nI_clamp (show i < 2 ^ 31 by omega), List.set_set, ← cSpr_s, ← e9, jmin_a c135]
              have hP : va_P G vwCl ((ws.set 27 (ad 27, .inl (cI, 12, .inl (cSpr (z 21) (F 26) (F 27) i)))).set 27 (ad 27, .inl (cI, 12, .inl (upd (cSpr (z 21) (F 26) (F 27) i) (nI i).toNatClampNeg ((((((F 26) i) + (((z 21) * (z 21)) / (2000 : Int32))) + (0 : Int32)) + (0 : Int32)) - ((((F 26) i) - (4 : Int32)) / (16 : Int32))))))) H := hP
              have hD : va_D A ((ws.set 27 (ad 27, .inl (cI, 12, .inl (cSpr (z 21) (F 26) (F 27) i)))).set 27 (ad 27, .inl (cI, 12, .inl (upd (cSpr (z 21) (F 26) (F 27) i) (nI i).toNatClampNeg ((((((F 26) i) + (((z 21) * (z 21)) / (2000 : Int32))) + (0 : Int32)) + (0 : Int32)) - ((((F 26) i) - (4 : Int32)) / (16 : Int32))))))) := hD
              rw [ew] at hP hD
              exact ihi H _ ls hlti (trivial) hP hD hS (lv_sub hl [2, 0] rfl)
            · refine lv_sipush (v := 1000) hx hb dX8_pulseOfTime_138 (by decide) ?_
              refine lv_goto (tgt := 145) hx hb dX8_pulseOfTime_141 (by decide) ?_
              refine va_iast hx hb hK hP hD hS 27 0 hA27 htI (by first | exact vp_in_nI (by omega) (by omega) | assumption) dX8_pulseOfTime_145 (fun H locs hP hD hS => ?_)
              have hm := va_gs (k := 27) (e := (ad 27, .inl (cI, 12, .inl (upd (cSpr (z 21) (F 26) (F 27) i) (nI i).toNatClampNeg (1000 : Int32))))) (by decide) hm
              have hA26 := va_gs (k := 27) (e := (ad 27, .inl (cI, 12, .inl (upd (cSpr (z 21) (F 26) (F 27) i) (nI i).toNatClampNeg (1000 : Int32))))) (by decide) hA26
              have hA27 := va_ge (e := (ad 27, .inl (cI, 12, .inl (upd (cSpr (z 21) (F 26) (F 27) i) (nI i).toNatClampNeg (1000 : Int32))))) hA27
              refine lv_iinc (v := nI (i + 1)) (lv' := [(1, .int (nI (i + 1))), (2, .int ((((((F 26) i) + (((z 21) * (z 21)) / (2000 : Int32))) + (0 : Int32)) + (0 : Int32)) - ((((F 26) i) - (4 : Int32)) / (16 : Int32)))), (0, .ref am)]) hx hb dX8_pulseOfTime_146 hl (k := 2) rfl (nI_1 i) (by decide) rfl (fun ls hl => ?_)
              refine lv_goto (tgt := 13) hx hb dX8_pulseOfTime_149 (by decide) ?_
              have ew : (ws.set 27 (ad 27, .inl (cI, 12, .inl (cSpr (z 21) (F 26) (F 27) i)))).set 27 (ad 27, .inl (cI, 12, .inl (upd (cSpr (z 21) (F 26) (F 27) i) (nI i).toNatClampNeg (1000 : Int32)))) = ws.set 27 (ad 27, .inl (cI, 12, .inl (cSpr (z 21) (F 26) (F 27) (i + 1)))) := by subst h27; have e9 := mV_eq (z 21) (F 26) hlti; unfold mV4 mV3 mV2 mV1 at e9; simp only [c30, c54, c85, ↓reduceIte] at e9; rw [nI_clamp (show i < 2 ^ 31 by omega), List.set_set, ← cSpr_s, ← e9, jmin_b c135]
              have hP : va_P G vwCl ((ws.set 27 (ad 27, .inl (cI, 12, .inl (cSpr (z 21) (F 26) (F 27) i)))).set 27 (ad 27, .inl (cI, 12, .inl (upd (cSpr (z 21) (F 26) (F 27) i) (nI i).toNatClampNeg (1000 : Int32))))) H := hP
              have hD : va_D A ((ws.set 27 (ad 27, .inl (cI, 12, .inl (cSpr (z 21) (F 26) (F 27) i)))).set 27 (ad 27, .inl (cI, 12, .inl (upd (cSpr (z 21) (F 26) (F 27) i) (nI i).toNatClampNeg (1000 : Int32))))) := hD
              rw [ew] at hP hD
              exact ihi H _ ls hlti (trivial) hP hD hS (lv_sub hl [2, 0] rfl)
          · refine lv_aload_n hx hb dX8_pulseOfTime_88 rfl (lv_at hl 1 rfl) ?_
            refine va_get (D := G) (ci := 9) (v := .ref (ad 26)) (C := RX8) (T := TX8) (N := 39) hx hb hts hiX8 hown hK hP 12 hm rfl 19 (by decide) (hts (.fieldLink RX8 49 "VortexpinModel" "part" "[I") (List.mem_of_getElem? (i := 2) rfl)) (fun _ h9 => h9) rfl dX8_pulseOfTime_89 ?_
            refine lv_iload_n hx hb dX8_pulseOfTime_92 rfl (lv_at hl 2 rfl) ?_
            refine lv_iconst (v := 1) hx hb dX8_pulseOfTime_93 (by decide) ?_
            refine lv_iadd hx hb dX8_pulseOfTime_94 ?_
            refine va_iald hx hb hK hP 26 0 hA26 htI (by rw [nI_1]; exact vp_in_nI (by have := mt (nI_leI (a := 11) (b := i) (by omega) (by omega)).mpr c85; omega) (by omega)) dX8_pulseOfTime_95 ?_
            refine rd_i (j := i + 1) (by rw [nI_1]; exact nI_clamp (by omega)) ?_
            refine lv_aload_n hx hb dX8_pulseOfTime_96 rfl (lv_at hl 1 rfl) ?_
            refine va_get (D := G) (ci := 9) (v := .ref (ad 26)) (C := RX8) (T := TX8) (N := 39) hx hb hts hiX8 hown hK hP 12 hm rfl 19 (by decide) (hts (.fieldLink RX8 49 "VortexpinModel" "part" "[I") (List.mem_of_getElem? (i := 2) rfl)) (fun _ h9 => h9) rfl dX8_pulseOfTime_97 ?_
            refine lv_iload_n hx hb dX8_pulseOfTime_100 rfl (lv_at hl 2 rfl) ?_
            refine va_iald hx hb hK hP 26 0 hA26 htI (by first | exact vp_in_nI (by omega) (by omega) | assumption) dX8_pulseOfTime_101 ?_
            refine rd_i (j := i) (nI_clamp (by omega)) ?_
            refine lv_isub hx hb dX8_pulseOfTime_102 ?_
            refine lv_bipush (v := 8) hx hb dX8_pulseOfTime_103 (by decide) ?_
            refine lv_idiv hx hb dX8_pulseOfTime_105 (by decide) ?_
            refine lv_goto (tgt := 110) hx hb dX8_pulseOfTime_106 (by decide) ?_
            refine lv_iadd hx hb dX8_pulseOfTime_110 ?_
            refine lv_istore_n (lv' := [(2, .int (((((F 26) i) + (((z 21) * (z 21)) / (2000 : Int32))) + (0 : Int32)) + ((((F 26) (i + 1)) - ((F 26) i)) / (8 : Int32)))), (0, .ref am), (1, .int (nI i))]) hx hb dX8_pulseOfTime_111 rfl hl (by decide) rfl (fun ls hl => ?_)
            refine lv_iload_n hx hb dX8_pulseOfTime_112 rfl (lv_at hl 0 rfl) ?_
            refine lv_aload_n hx hb dX8_pulseOfTime_113 rfl (lv_at hl 1 rfl) ?_
            refine va_get (D := G) (ci := 9) (v := .ref (ad 26)) (C := RX8) (T := TX8) (N := 39) hx hb hts hiX8 hown hK hP 12 hm rfl 19 (by decide) (hts (.fieldLink RX8 49 "VortexpinModel" "part" "[I") (List.mem_of_getElem? (i := 2) rfl)) (fun _ h9 => h9) rfl dX8_pulseOfTime_114 ?_
            refine lv_iload_n hx hb dX8_pulseOfTime_117 rfl (lv_at hl 2 rfl) ?_
            refine va_iald hx hb hK hP 26 0 hA26 htI (by first | exact vp_in_nI (by omega) (by omega) | assumption) dX8_pulseOfTime_118 ?_
            refine rd_i (j := i) (nI_clamp (by omega)) ?_
            refine lv_iconst (v := 4) hx hb dX8_pulseOfTime_119 (by decide) ?_
            refine lv_isub hx hb dX8_pulseOfTime_120 ?_
            refine lv_bipush (v := 16) hx hb dX8_pulseOfTime_121 (by decide) ?_
            refine lv_idiv hx hb dX8_pulseOfTime_123 (by decide) ?_
            refine lv_isub hx hb dX8_pulseOfTime_124 ?_
            refine lv_istore_n (lv' := [(2, .int ((((((F 26) i) + (((z 21) * (z 21)) / (2000 : Int32))) + (0 : Int32)) + ((((F 26) (i + 1)) - ((F 26) i)) / (8 : Int32))) - ((((F 26) i) - (4 : Int32)) / (16 : Int32)))), (0, .ref am), (1, .int (nI i))]) hx hb dX8_pulseOfTime_125 rfl hl (by decide) rfl (fun ls hl => ?_)
            refine lv_aload_n hx hb dX8_pulseOfTime_126 rfl (lv_at hl 1 rfl) ?_
            refine va_get (D := G) (ci := 9) (v := .ref (ad 27)) (C := RX8) (T := TX8) (N := 39) hx hb hts hiX8 hown hK hP 12 hm rfl 20 (by decide) (hts (.fieldLink RX8 52 "VortexpinModel" "partThen" "[I") (List.mem_of_getElem? (i := 4) rfl)) (fun _ h9 => h9) rfl dX8_pulseOfTime_127 ?_
            refine lv_iload_n hx hb dX8_pulseOfTime_130 rfl (lv_at hl 2 rfl) ?_
            refine lv_iload_n hx hb dX8_pulseOfTime_131 rfl (lv_at hl 0 rfl) ?_
            refine lv_sipush (v := 1000) hx hb dX8_pulseOfTime_132 (by decide) ?_
            refine lv_icmp_le (tgt := 144) hx hb dX8_pulseOfTime_135 (by decide) (fun c135 => ?_) (fun c135 => ?_)
            · refine lv_iload_n hx hb dX8_pulseOfTime_144 rfl (lv_at hl 0 rfl) ?_
              refine va_iast hx hb hK hP hD hS 27 0 hA27 htI (by first | exact vp_in_nI (by omega) (by omega) | assumption) dX8_pulseOfTime_145 (fun H locs hP hD hS => ?_)
              have hm := va_gs (k := 27) (e := (ad 27, .inl (cI, 12, .inl (upd (cSpr (z 21) (F 26) (F 27) i) (nI i).toNatClampNeg ((((((F 26) i) + (((z 21) * (z 21)) / (2000 : Int32))) + (0 : Int32)) + ((((F 26) (i + 1)) - ((F 26) i)) / (8 : Int32))) - ((((F 26) i) - (4 : Int32)) / (16 : Int32))))))) (by decide) hm
              have hA26 := va_gs (k := 27) (e := (ad 27, .inl (cI, 12, .inl (upd (cSpr (z 21) (F 26) (F 27) i) (nI i).toNatClampNeg ((((((F 26) i) + (((z 21) * (z 21)) / (2000 : Int32))) + (0 : Int32)) + ((((F 26) (i + 1)) - ((F 26) i)) / (8 : Int32))) - ((((F 26) i) - (4 : Int32)) / (16 : Int32))))))) (by decide) hA26
              have hA27 := va_ge (e := (ad 27, .inl (cI, 12, .inl (upd (cSpr (z 21) (F 26) (F 27) i) (nI i).toNatClampNeg ((((((F 26) i) + (((z 21) * (z 21)) / (2000 : Int32))) + (0 : Int32)) + ((((F 26) (i + 1)) - ((F 26) i)) / (8 : Int32))) - ((((F 26) i) - (4 : Int32)) / (16 : Int32))))))) hA27
              refine lv_iinc (v := nI (i + 1)) (lv' := [(1, .int (nI (i + 1))), (2, .int ((((((F 26) i) + (((z 21) * (z 21)) / (2000 : Int32))) + (0 : Int32)) + ((((F 26) (i + 1)) - ((F 26) i)) / (8 : Int32))) - ((((F 26) i) - (4 : Int32)) / (16 : Int32)))), (0, .ref am)]) hx hb dX8_pulseOfTime_146 hl (k := 2) rfl (nI_1 i) (by decide) rfl (fun ls hl => ?_)
              refine lv_goto (tgt := 13) hx hb dX8_pulseOfTime_149 (by decide) ?_
              have ew : (ws.set 27 (ad 27, .inl (cI, 12, .inl (cSpr (z 21) (F 26) (F 27) i)))).set 27 (ad 27, .inl (cI, 12, .inl (upd (cSpr (z 21) (F 26) (F 27) i) (nI i).toNatClampNeg ((((((F 26) i) + (((z 21) * (z 21)) / (2000 : Int32))) + (0 : Int32)) + ((((F 26) (i + 1)) - ((F 26) i)) / (8 : Int32))) - ((((F 26) i) - (4 : Int32)) / (16 : Int32)))))) = ws.set 27 (ad 27, .inl (cI, 12, .inl (cSpr (z 21) (F 26) (F 27) (i + 1)))) := by subst h27; have e9 := mV_eq (z 21) (F 26) hlti; unfold mV4 mV3 mV2 mV1 at e9; simp only [c30, c54, c85, ↓reduceIte] at e9; rw [nI_clamp (show i < 2 ^ 31 by omega), List.set_set, ← cSpr_s, ← e9, jmin_a c135]
              have hP : va_P G vwCl ((ws.set 27 (ad 27, .inl (cI, 12, .inl (cSpr (z 21) (F 26) (F 27) i)))).set 27 (ad 27, .inl (cI, 12, .inl (upd (cSpr (z 21) (F 26) (F 27) i) (nI i).toNatClampNeg ((((((F 26) i) + (((z 21) * (z 21)) / (2000 : Int32))) + (0 : Int32)) + ((((F 26) (i + 1)) - ((F 26) i)) / (8 : Int32))) - ((((F 26) i) - (4 : Int32)) / (16 : Int32))))))) H := hP
              have hD : va_D A ((ws.set 27 (ad 27, .inl (cI, 12, .inl (cSpr (z 21) (F 26) (F 27) i)))).set 27 (ad 27, .inl (cI, 12, .inl (upd (cSpr (z 21) (F 26) (F 27) i) (nI i).toNatClampNeg ((((((F 26) i) + (((z 21) * (z 21)) / (2000 : Int32))) + (0 : Int32)) + ((((F 26) (i + 1)) - ((F 26) i)) / (8 : Int32))) - ((((F 26) i) - (4 : Int32)) / (16 : Int32))))))) := hD
              rw [ew] at hP hD
              exact ihi H _ ls hlti (trivial) hP hD hS (lv_sub hl [2, 0] rfl)
            · refine lv_sipush (v := 1000) hx hb dX8_pulseOfTime_138 (by decide) ?_
              refine lv_goto (tgt := 145) hx hb dX8_pulseOfTime_141 (by decide) ?_
              refine va_iast hx hb hK hP hD hS 27 0 hA27 htI (by first | exact vp_in_nI (by omega) (by omega) | assumption) dX8_pulseOfTime_145 (fun H locs hP hD hS => ?_)
              have hm := va_gs (k := 27) (e := (ad 27, .inl (cI, 12, .inl (upd (cSpr (z 21) (F 26) (F 27) i) (nI i).toNatClampNeg (1000 : Int32))))) (by decide) hm
              have hA26 := va_gs (k := 27) (e := (ad 27, .inl (cI, 12, .inl (upd (cSpr (z 21) (F 26) (F 27) i) (nI i).toNatClampNeg (1000 : Int32))))) (by decide) hA26
              have hA27 := va_ge (e := (ad 27, .inl (cI, 12, .inl (upd (cSpr (z 21) (F 26) (F 27) i) (nI i).toNatClampNeg (1000 : Int32))))) hA27
              refine lv_iinc (v := nI (i + 1)) (lv' := [(1, .int (nI (i + 1))), (2, .int ((((((F 26) i) + (((z 21) * (z 21)) / (2000 : Int32))) + (0 : Int32)) + ((((F 26) (i + 1)) - ((F 26) i)) / (8 : Int32))) - ((((F 26) i) - (4 : Int32)) / (16 : Int32)))), (0, .ref am)]) hx hb dX8_pulseOfTime_146 hl (k := 2) rfl (nI_1 i) (by decide) rfl (fun ls hl => ?_)
              refine lv_goto (tgt := 13) hx hb dX8_pulseOfTime_149 (by decide) ?_
              have ew : (ws.set 27 (ad 27, .inl (cI, 12, .inl (cSpr (z 21) (F 26) (F 27) i)))).set 27 (ad 27, .inl (cI, 12, .inl (upd (cSpr (z 21) (F 26) (F 27) i) (nI i).toNatClampNeg (1000 : Int32)))) = ws.set 27 (ad 27, .inl (cI, 12, .inl (cSpr (z 21) (F 26) (F 27) (i + 1)))) := by subst h27; have e9 := mV_eq (z 21) (F 26) hlti; unfold mV4 mV3 mV2 mV1 at e9; simp only [c30, c54, c85, ↓reduceIte] at e9; rw [nI_clamp (show i < 2 ^ 31 by omega), List.set_set, ← cSpr_s, ← e9, jmin_b c135]
              have hP : va_P G vwCl ((ws.set 27 (ad 27, .inl (cI, 12, .inl (cSpr (z 21) (F 26) (F 27) i)))).set 27 (ad 27, .inl (cI, 12, .inl (upd (cSpr (z 21) (F 26) (F 27) i) (nI i).toNatClampNeg (1000 : Int32))))) H := hP
              have hD : va_D A ((ws.set 27 (ad 27, .inl (cI, 12, .inl (cSpr (z 21) (F 26) (F 27) i)))).set 27 (ad 27, .inl (cI, 12, .inl (upd (cSpr (z 21) (F 26) (F 27) i) (nI i).toNatClampNeg (1000 : Int32))))) := hD
              rw [ew] at hP hD
              exact ihi H _ ls hlti (trivial) hP hD hS (lv_sub hl [2, 0] rfl)
        · refine lv_aload_n hx hb dX8_pulseOfTime_57 rfl (lv_at hl 1 rfl) ?_
          refine va_get (D := G) (ci := 9) (v := .ref (ad 26)) (C := RX8) (T := TX8) (N := 39) hx hb hts hiX8 hown hK hP 12 hm rfl 19 (by decide) (hts (.fieldLink RX8 49 "VortexpinModel" "part" "[I") (List.mem_of_getElem? (i := 2) rfl)) (fun _ h9 => h9) rfl dX8_pulseOfTime_58 ?_
          refine lv_iload_n hx hb dX8_pulseOfTime_61 rfl (lv_at hl 2 rfl) ?_
          refine lv_iconst (v := 1) hx hb dX8_pulseOfTime_62 (by decide) ?_
          refine lv_isub hx hb dX8_pulseOfTime_63 ?_
          refine va_iald hx hb hK hP 26 0 hA26 htI (by rw [nI_m1' (nI_pos0 c54)]; exact vp_in_nI (by omega) (by omega)) dX8_pulseOfTime_64 ?_
          refine rd_i (j := i - 1) (by rw [nI_m1' (nI_pos0 c54)]; exact nI_clamp (by omega)) ?_
          refine lv_aload_n hx hb dX8_pulseOfTime_65 rfl (lv_at hl 1 rfl) ?_
          refine va_get (D := G) (ci := 9) (v := .ref (ad 26)) (C := RX8) (T := TX8) (N := 39) hx hb hts hiX8 hown hK hP 12 hm rfl 19 (by decide) (hts (.fieldLink RX8 49 "VortexpinModel" "part" "[I") (List.mem_of_getElem? (i := 2) rfl)) (fun _ h9 => h9) rfl dX8_pulseOfTime_66 ?_
          refine lv_iload_n hx hb dX8_pulseOfTime_69 rfl (lv_at hl 2 rfl) ?_
          refine va_iald hx hb hK hP 26 0 hA26 htI (by first | exact vp_in_nI (by omega) (by omega) | assumption) dX8_pulseOfTime_70 ?_
          refine rd_i (j := i) (nI_clamp (by omega)) ?_
          refine lv_isub hx hb dX8_pulseOfTime_71 ?_
          refine lv_bipush (v := 8) hx hb dX8_pulseOfTime_72 (by decide) ?_
          refine lv_idiv hx hb dX8_pulseOfTime_74 (by decide) ?_
          refine lv_goto (tgt := 79) hx hb dX8_pulseOfTime_75 (by decide) ?_
          refine lv_iadd hx hb dX8_pulseOfTime_79 ?_
          refine lv_istore_n (lv' := [(2, .int ((((F 26) i) + (((z 21) * (z 21)) / (2000 : Int32))) + ((((F 26) (i - 1)) - ((F 26) i)) / (8 : Int32)))), (0, .ref am), (1, .int (nI i))]) hx hb dX8_pulseOfTime_80 rfl hl (by decide) rfl (fun ls hl => ?_)
          refine lv_iload_n hx hb dX8_pulseOfTime_81 rfl (lv_at hl 0 rfl) ?_
          refine lv_iload_n hx hb dX8_pulseOfTime_82 rfl (lv_at hl 2 rfl) ?_
          refine lv_bipush (v := 11) hx hb dX8_pulseOfTime_83 (by decide) ?_
          refine lv_icmp_ge (tgt := 109) hx hb dX8_pulseOfTime_85 (by decide) (fun c85 => ?_) (fun c85 => ?_)
          · refine lv_iconst (v := 0) hx hb dX8_pulseOfTime_109 (by decide) ?_
            refine lv_iadd hx hb dX8_pulseOfTime_110 ?_
            refine lv_istore_n (lv' := [(2, .int (((((F 26) i) + (((z 21) * (z 21)) / (2000 : Int32))) + ((((F 26) (i - 1)) - ((F 26) i)) / (8 : Int32))) + (0 : Int32))), (0, .ref am), (1, .int (nI i))]) hx hb dX8_pulseOfTime_111 rfl hl (by decide) rfl (fun ls hl => ?_)
            refine lv_iload_n hx hb dX8_pulseOfTime_112 rfl (lv_at hl 0 rfl) ?_
            refine lv_aload_n hx hb dX8_pulseOfTime_113 rfl (lv_at hl 1 rfl) ?_
            refine va_get (D := G) (ci := 9) (v := .ref (ad 26)) (C := RX8) (T := TX8) (N := 39) hx hb hts hiX8 hown hK hP 12 hm rfl 19 (by decide) (hts (.fieldLink RX8 49 "VortexpinModel" "part" "[I") (List.mem_of_getElem? (i := 2) rfl)) (fun _ h9 => h9) rfl dX8_pulseOfTime_114 ?_
            refine lv_iload_n hx hb dX8_pulseOfTime_117 rfl (lv_at hl 2 rfl) ?_
            refine va_iald hx hb hK hP 26 0 hA26 htI (by first | exact vp_in_nI (by omega) (by omega) | assumption) dX8_pulseOfTime_118 ?_
            refine rd_i (j := i) (nI_clamp (by omega)) ?_
            refine lv_iconst (v := 4) hx hb dX8_pulseOfTime_119 (by decide) ?_
            refine lv_isub hx hb dX8_pulseOfTime_120 ?_
            refine lv_bipush (v := 16) hx hb dX8_pulseOfTime_121 (by decide) ?_
            refine lv_idiv hx hb dX8_pulseOfTime_123 (by decide) ?_
            refine lv_isub hx hb dX8_pulseOfTime_124 ?_
            refine lv_istore_n (lv' := [(2, .int ((((((F 26) i) + (((z 21) * (z 21)) / (2000 : Int32))) + ((((F 26) (i - 1)) - ((F 26) i)) / (8 : Int32))) + (0 : Int32)) - ((((F 26) i) - (4 : Int32)) / (16 : Int32)))), (0, .ref am), (1, .int (nI i))]) hx hb dX8_pulseOfTime_125 rfl hl (by decide) rfl (fun ls hl => ?_)
            refine lv_aload_n hx hb dX8_pulseOfTime_126 rfl (lv_at hl 1 rfl) ?_
            refine va_get (D := G) (ci := 9) (v := .ref (ad 27)) (C := RX8) (T := TX8) (N := 39) hx hb hts hiX8 hown hK hP 12 hm rfl 20 (by decide) (hts (.fieldLink RX8 52 "VortexpinModel" "partThen" "[I") (List.mem_of_getElem? (i := 4) rfl)) (fun _ h9 => h9) rfl dX8_pulseOfTime_127 ?_
            refine lv_iload_n hx hb dX8_pulseOfTime_130 rfl (lv_at hl 2 rfl) ?_
            refine lv_iload_n hx hb dX8_pulseOfTime_131 rfl (lv_at hl 0 rfl) ?_
            refine lv_sipush (v := 1000) hx hb dX8_pulseOfTime_132 (by decide) ?_
            refine lv_icmp_le (tgt := 144) hx hb dX8_pulseOfTime_135 (by decide) (fun c135 => ?_) (fun c135 => ?_)
            · refine lv_iload_n hx hb dX8_pulseOfTime_144 rfl (lv_at hl 0 rfl) ?_
              refine va_iast hx hb hK hP hD hS 27 0 hA27 htI (by first | exact vp_in_nI (by omega) (by omega) | assumption) dX8_pulseOfTime_145 (fun H locs hP hD hS => ?_)
              have hm := va_gs (k := 27) (e := (ad 27, .inl (cI, 12, .inl (upd (cSpr (z 21) (F 26) (F 27) i) (nI i).toNatClampNeg ((((((F 26) i) + (((z 21) * (z 21)) / (2000 : Int32))) + ((((F 26) (i - 1)) - ((F 26) i)) / (8 : Int32))) + (0 : Int32)) - ((((F 26) i) - (4 : Int32)) / (16 : Int32))))))) (by decide) hm
              have hA26 := va_gs (k := 27) (e := (ad 27, .inl (cI, 12, .inl (upd (cSpr (z 21) (F 26) (F 27) i) (nI i).toNatClampNeg ((((((F 26) i) + (((z 21) * (z 21)) / (2000 : Int32))) + ((((F 26) (i - 1)) - ((F 26) i)) / (8 : Int32))) + (0 : Int32)) - ((((F 26) i) - (4 : Int32)) / (16 : Int32))))))) (by decide) hA26
              have hA27 := va_ge (e := (ad 27, .inl (cI, 12, .inl (upd (cSpr (z 21) (F 26) (F 27) i) (nI i).toNatClampNeg ((((((F 26) i) + (((z 21) * (z 21)) / (2000 : Int32))) + ((((F 26) (i - 1)) - ((F 26) i)) / (8 : Int32))) + (0 : Int32)) - ((((F 26) i) - (4 : Int32)) / (16 : Int32))))))) hA27
              refine lv_iinc (v := nI (i + 1)) (lv' := [(1, .int (nI (i + 1))), (2, .int ((((((F 26) i) + (((z 21) * (z 21)) / (2000 : Int32))) + ((((F 26) (i - 1)) - ((F 26) i)) / (8 : Int32))) + (0 : Int32)) - ((((F 26) i) - (4 : Int32)) / (16 : Int32)))), (0, .ref am)]) hx hb dX8_pulseOfTime_146 hl (k := 2) rfl (nI_1 i) (by decide) rfl (fun ls hl => ?_)
              refine lv_goto (tgt := 13) hx hb dX8_pulseOfTime_149 (by decide) ?_
              have ew : (ws.set 27 (ad 27, .inl (cI, 12, .inl (cSpr (z 21) (F 26) (F 27) i)))).set 27 (ad 27, .inl (cI, 12, .inl (upd (cSpr (z 21) (F 26) (F 27) i) (nI i).toNatClampNeg ((((((F 26) i) + (((z 21) * (z 21)) / (2000 : Int32))) + ((((F 26) (i - 1)) - ((F 26) i)) / (8 : Int32))) + (0 : Int32)) - ((((F 26) i) - (4 : Int32)) / (16 : Int32)))))) = ws.set 27 (ad 27, .inl (cI, 12, .inl (cSpr (z 21) (F 26) (F 27) (i + 1)))) := by subst h27; have e9 := mV_eq (z 21) (F 26) hlti; unfold mV4 mV3 mV2 mV1 at e9; simp only [c30, c54, c85, ↓reduceIte] at e9; rw [nI_clamp (show i < 2 ^ 31 by omega), List.set_set, ← cSpr_s, ← e9, jmin_a c135]
              have hP : va_P G vwCl ((ws.set 27 (ad 27, .inl (cI, 12, .inl (cSpr (z 21) (F 26) (F 27) i)))).set 27 (ad 27, .inl (cI, 12, .inl (upd (cSpr (z 21) (F 26) (F 27) i) (nI i).toNatClampNeg ((((((F 26) i) + (((z 21) * (z 21)) / (2000 : Int32))) + ((((F 26) (i - 1)) - ((F 26) i)) / (8 : Int32))) + (0 : Int32)) - ((((F 26) i) - (4 : Int32)) / (16 : Int32))))))) H := hP
              have hD : va_D A ((ws.set 27 (ad 27, .inl (cI, 12, .inl (cSpr (z 21) (F 26) (F 27) i)))).set 27 (ad 27, .inl (cI, 12, .inl (upd (cSpr (z 21) (F 26) (F 27) i) (nI i).toNatClampNeg ((((((F 26) i) + (((z 21) * (z 21)) / (2000 : Int32))) + ((((F 26) (i - 1)) - ((F 26) i)) / (8 : Int32))) + (0 : Int32)) - ((((F 26) i) - (4 : Int32)) / (16 : Int32))))))) := hD
              rw [ew] at hP hD
              exact ihi H _ ls hlti (trivial) hP hD hS (lv_sub hl [2, 0] rfl)
            · refine lv_sipush (v := 1000) hx hb dX8_pulseOfTime_138 (by decide) ?_
              refine lv_goto (tgt := 145) hx hb dX8_pulseOfTime_141 (by decide) ?_
              refine va_iast hx hb hK hP hD hS 27 0 hA27 htI (by first | exact vp_in_nI (by omega) (by omega) | assumption) dX8_pulseOfTime_145 (fun H locs hP hD hS => ?_)
              have hm := va_gs (k := 27) (e := (ad 27, .inl (cI, 12, .inl (upd (cSpr (z 21) (F 26) (F 27) i) (nI i).toNatClampNeg (1000 : Int32))))) (by decide) hm
              have hA26 := va_gs (k := 27) (e := (ad 27, .inl (cI, 12, .inl (upd (cSpr (z 21) (F 26) (F 27) i) (nI i).toNatClampNeg (1000 : Int32))))) (by decide) hA26
              have hA27 := va_ge (e := (ad 27, .inl (cI, 12, .inl (upd (cSpr (z 21) (F 26) (F 27) i) (nI i).toNatClampNeg (1000 : Int32))))) hA27
              refine lv_iinc (v := nI (i + 1)) (lv' := [(1, .int (nI (i + 1))), (2, .int ((((((F 26) i) + (((z 21) * (z 21)) / (2000 : Int32))) + ((((F 26) (i - 1)) - ((F 26) i)) / (8 : Int32))) + (0 : Int32)) - ((((F 26) i) - (4 : Int32)) / (16 : Int32)))), (0, .ref am)]) hx hb dX8_pulseOfTime_146 hl (k := 2) rfl (nI_1 i) (by decide) rfl (fun ls hl => ?_)
              refine lv_goto (tgt := 13) hx hb dX8_pulseOfTime_149 (by decide) ?_
              have ew : (ws.set 27 (ad 27, .inl (cI, 12, .inl (cSpr (z 21) (F 26) (F 27) i)))).set 27 (ad 27, .inl (cI, 12, .inl (upd (cSpr (z 21) (F 26) (F 27) i) (nI i).toNatClampNeg (1000 : Int32)))) = ws.set 27 (ad 27, .inl (cI, 12, .inl (cSpr (z 21) (F 26) (F 27) (i + 1)))) := by subst h27; have e9 := mV_eq (z 21) (F 26) hlti; unfold mV4 mV3 mV2 mV1 at e9; simp only [c30, c54, c85, ↓reduceIte] at e9; rw [nI_clamp (show i < 2 ^ 31 by omega), List.set_set, ← cSpr_s, ← e9, jmin_b c135]
              have hP : va_P G vwCl ((ws.set 27 (ad 27, .inl (cI, 12, .inl (cSpr (z 21) (F 26) (F 27) i)))).set 27 (ad 27, .inl (cI, 12, .inl (upd (cSpr (z 21) (F 26) (F 27) i) (nI i).toNatClampNeg (1000 : Int32))))) H := hP
              have hD : va_D A ((ws.set 27 (ad 27, .inl (cI, 12, .inl (cSpr (z 21) (F 26) (F 27) i)))).set 27 (ad 27, .inl (cI, 12, .inl (upd (cSpr (z 21) (F 26) (F 27) i) (nI i).toNatClampNeg (1000 : Int32))))) := hD
              rw [ew] at hP hD
              exact ihi H _ ls hlti (trivial) hP hD hS (lv_sub hl [2, 0] rfl)
          · refine lv_aload_n hx hb dX8_pulseOfTime_88 rfl (lv_at hl 1 rfl) ?_
            refine va_get (D := G) (ci := 9) (v := .ref (ad 26)) (C := RX8) (T := TX8) (N := 39) hx hb hts hiX8 hown hK hP 12 hm rfl 19 (by decide) (hts (.fieldLink RX8 49 "VortexpinModel" "part" "[I") (List.mem_of_getElem? (i := 2) rfl)) (fun _ h9 => h9) rfl dX8_pulseOfTime_89 ?_
            refine lv_iload_n hx hb dX8_pulseOfTime_92 rfl (lv_at hl 2 rfl) ?_
            refine lv_iconst (v := 1) hx hb dX8_pulseOfTime_93 (by decide) ?_
            refine lv_iadd hx hb dX8_pulseOfTime_94 ?_
            refine va_iald hx hb hK hP 26 0 hA26 htI (by rw [nI_1]; exact vp_in_nI (by have := mt (nI_leI (a := 11) (b := i) (by omega) (by omega)).mpr c85; omega) (by omega)) dX8_pulseOfTime_95 ?_
            refine rd_i (j := i + 1) (by rw [nI_1]; exact nI_clamp (by omega)) ?_
            refine lv_aload_n hx hb dX8_pulseOfTime_96 rfl (lv_at hl 1 rfl) ?_
            refine va_get (D := G) (ci := 9) (v := .ref (ad 26)) (C := RX8) (T := TX8) (N := 39) hx hb hts hiX8 hown hK hP 12 hm rfl 19 (by decide) (hts (.fieldLink RX8 49 "VortexpinModel" "part" "[I") (List.mem_of_getElem? (i := 2) rfl)) (fun _ h9 => h9) rfl dX8_pulseOfTime_97 ?_
            refine lv_iload_n hx hb dX8_pulseOfTime_100 rfl (lv_at hl 2 rfl) ?_
            refine va_iald hx hb hK hP 26 0 hA26 htI (by first | exact vp_in_nI (by omega) (by omega) | assumption) dX8_pulseOfTime_101 ?_
            refine rd_i (j := i) (nI_clamp (by omega)) ?_
            refine lv_isub hx hb dX8_pulseOfTime_102 ?_
            refine lv_bipush (v := 8) hx hb dX8_pulseOfTime_103 (by decide) ?_
            refine lv_idiv hx hb dX8_pulseOfTime_105 (by decide) ?_
            refine lv_goto (tgt := 110) hx hb dX8_pulseOfTime_106 (by decide) ?_
            refine lv_iadd hx hb dX8_pulseOfTime_110 ?_
            refine lv_istore_n (lv' := [(2, .int (((((F 26) i) + (((z 21) * (z 21)) / (2000 : Int32))) + ((((F 26) (i - 1)) - ((F 26) i)) / (8 : Int32))) + ((((F 26) (i + 1)) - ((F 26) i)) / (8 : Int32)))), (0, .ref am), (1, .int (nI i))]) hx hb dX8_pulseOfTime_111 rfl hl (by decide) rfl (fun ls hl => ?_)
            refine lv_iload_n hx hb dX8_pulseOfTime_112 rfl (lv_at hl 0 rfl) ?_
            refine lv_aload_n hx hb dX8_pulseOfTime_113 rfl (lv_at hl 1 rfl) ?_
            refine va_get (D := G) (ci := 9) (v := .ref (ad 26)) (C := RX8) (T := TX8) (N := 39) hx hb hts hiX8 hown hK hP 12 hm rfl 19 (by decide) (hts (.fieldLink RX8 49 "VortexpinModel" "part" "[I") (List.mem_of_getElem? (i := 2) rfl)) (fun _ h9 => h9) rfl dX8_pulseOfTime_114 ?_
            refine lv_iload_n hx hb dX8_pulseOfTime_117 rfl (lv_at hl 2 rfl) ?_
            refine va_iald hx hb hK hP 26 0 hA26 htI (by first | exact vp_in_nI (by omega) (by omega) | assumption) dX8_pulseOfTime_118 ?_
            refine rd_i (j := i) (nI_clamp (by omega)) ?_
            refine lv_iconst (v := 4) hx hb dX8_pulseOfTime_119 (by decide) ?_
            refine lv_isub hx hb dX8_pulseOfTime_120 ?_
            refine lv_bipush (v := 16) hx hb dX8_pulseOfTime_121 (by decide) ?_
            refine lv_idiv hx hb dX8_pulseOfTime_123 (by decide) ?_
            refine lv_isub hx hb dX8_pulseOfTime_124 ?_
            refine lv_istore_n (lv' := [(2, .int ((((((F 26) i) + (((z 21) * (z 21)) / (2000 : Int32))) + ((((F 26) (i - 1)) - ((F 26) i)) / (8 : Int32))) + ((((F 26) (i + 1)) - ((F 26) i)) / (8 : Int32))) - ((((F 26) i) - (4 : Int32)) / (16 : Int32)))), (0, .ref am), (1, .int (nI i))]) hx hb dX8_pulseOfTime_125 rfl hl (by decide) rfl (fun ls hl => ?_)
            refine lv_aload_n hx hb dX8_pulseOfTime_126 rfl (lv_at hl 1 rfl) ?_
            refine va_get (D := G) (ci := 9) (v := .ref (ad 27)) (C := RX8) (T := TX8) (N := 39) hx hb hts hiX8 hown hK hP 12 hm rfl 20 (by decide) (hts (.fieldLink RX8 52 "VortexpinModel" "partThen" "[I") (List.mem_of_getElem? (i := 4) rfl)) (fun _ h9 => h9) rfl dX8_pulseOfTime_127 ?_
            refine lv_iload_n hx hb dX8_pulseOfTime_130 rfl (lv_at hl 2 rfl) ?_
            refine lv_iload_n hx hb dX8_pulseOfTime_131 rfl (lv_at hl 0 rfl) ?_
            refine lv_sipush (v := 1000) hx hb dX8_pulseOfTime_132 (by decide) ?_
            refine lv_icmp_le (tgt := 144) hx hb dX8_pulseOfTime_135 (by decide) (fun c135 => ?_) (fun c135 => ?_)
            · refine lv_iload_n hx hb dX8_pulseOfTime_144 rfl (lv_at hl 0 rfl) ?_
              refine va_iast hx hb hK hP hD hS 27 0 hA27 htI (by first | exact vp_in_nI (by omega) (by omega) | assumption) dX8_pulseOfTime_145 (fun H locs hP hD hS => ?_)
              have hm := va_gs (k := 27) (e := (ad 27, .inl (cI, 12, .inl (upd (cSpr (z 21) (F 26) (F 27) i) (nI i).toNatClampNeg ((((((F 26) i) + (((z 21) * (z 21)) / (2000 : Int32))) + ((((F 26) (i - 1)) - ((F 26) i)) / (8 : Int32))) + ((((F 26) (i + 1)) - ((F 26) i)) / (8 : Int32))) - ((((F 26) i) - (4 : Int32)) / (16 : Int32))))))) (by decide) hm
              have hA26 := va_gs (k := 27) (e := (ad 27, .inl (cI, 12, .inl (upd (cSpr (z 21) (F 26) (F 27) i) (nI i).toNatClampNeg ((((((F 26) i) + (((z 21) * (z 21)) / (2000 : Int32))) + ((((F 26) (i - 1)) - ((F 26) i)) / (8 : Int32))) + ((((F 26) (i + 1)) - ((F 26) i)) / (8 : Int32))) - ((((F 26) i) - (4 : Int32)) / (16 : Int32))))))) (by decide) hA26
              have hA27 := va_ge (e := (ad 27, .inl (cI, 12, .inl (upd (cSpr (z 21) (F 26) (F 27) i) (nI i).toNatClampNeg ((((((F 26) i) + (((z 21) * (z 21)) / (2000 : Int32))) + ((((F 26) (i - 1)) - ((F 26) i)) / (8 : Int32))) + ((((F 26) (i + 1)) - ((F 26) i)) / (8 : Int32))) - ((((F 26) i) - (4 : Int32)) / (16 : Int32))))))) hA27
              refine lv_iinc (v := nI (i + 1)) (lv' := [(1, .int (nI (i + 1))), (2, .int ((((((F 26) i) + (((z 21) * (z 21)) / (2000 : Int32))) + ((((F 26) (i - 1)) - ((F 26) i)) / (8 : Int32))) + ((((F 26) (i + 1)) - ((F 26) i)) / (8 : Int32))) - ((((F 26) i) - (4 : Int32)) / (16 : Int32)))), (0, .ref am)]) hx hb dX8_pulseOfTime_146 hl (k := 2) rfl (nI_1 i) (by decide) rfl (fun ls hl => ?_)
              refine lv_goto (tgt := 13) hx hb dX8_pulseOfTime_149 (by decide) ?_
              have ew : (ws.set 27 (ad 27, .inl (cI, 12, .inl (cSpr (z 21) (F 26) (F 27) i)))).set 27 (ad 27, .inl (cI, 12, .inl (upd (cSpr (z 21) (F 26) (F 27) i) (nI i).toNatClampNeg ((((((F 26) i) + (((z 21) * (z 21)) / (2000 : Int32))) + ((((F 26) (i - 1)) - ((F 26) i)) / (8 : Int32))) + ((((F 26) (i + 1)) - ((F 26) i)) / (8 : Int32))) - ((((F 26) i) - (4 : Int32)) / (16 : Int32)))))) = ws.set 27 (ad 27, .inl (cI, 12, .inl (cSpr (z 21) (F 26) (F 27) (i + 1)))) := by subst h27; have e9 := mV_eq (z 21) (F 26) hlti; unfold mV4 mV3 mV2 mV1 at e9; simp only [c30, c54, c85, ↓reduceIte] at e9; rw [nI_clamp (show i < 2 ^ 31 by omega), List.set_set, ← cSpr_s, ← e9, jmin_a c135]
              have hP : va_P G vwCl ((ws.set 27 (ad 27, .inl (cI, 12, .inl (cSpr (z 21) (F 26) (F 27) i)))).set 27 (ad 27, .inl (cI, 12, .inl (upd (cSpr (z 21) (F 26) (F 27) i) (nI i).toNatClampNeg ((((((F 26) i) + (((z 21) * (z 21)) / (2000 : Int32))) + ((((F 26) (i - 1)) - ((F 26) i)) / (8 : Int32))) + ((((F 26) (i + 1)) - ((F 26) i)) / (8 : Int32))) - ((((F 26) i) - (4 : Int32)) / (16 : Int32))))))) H := hP
              have hD : va_D A ((ws.set 27 (ad 27, .inl (cI, 12, .inl (cSpr (z 21) (F 26) (F 27) i)))).set 27 (ad 27, .inl (cI, 12, .inl (upd (cSpr (z 21) (F 26) (F 27) i) (nI i).toNatClampNeg ((((((F 26) i) + (((z 21) * (z 21)) / (2000 : Int32))) + ((((F 26) (i - 1)) - ((F 26) i)) / (8 : Int32))) + ((((F 26) (i + 1)) - ((F 26) i)) / (8 : Int32))) - ((((F 26) i) - (4 : Int32)) / (16 : Int32))))))) := hD
              rw [ew] at hP hD
              exact ihi H _ ls hlti (trivial) hP hD hS (lv_sub hl [2, 0] rfl)
            · refine lv_sipush (v := 1000) hx hb dX8_pulseOfTime_138 (by decide) ?_
              refine lv_goto (tgt := 145) hx hb dX8_pulseOfTime_141 (by decide) ?_
              refine va_iast hx hb hK hP hD hS 27 0 hA27 htI (by first | exact vp_in_nI (by omega) (by omega) | assumption) dX8_pulseOfTime_145 (fun H locs hP hD hS => ?_)
              have hm := va_gs (k := 27) (e := (ad 27, .inl (cI, 12, .inl (upd (cSpr (z 21) (F 26) (F 27) i) (nI i).toNatClampNeg (1000 : Int32))))) (by decide) hm
              have hA26 := va_gs (k := 27) (e := (ad 27, .inl (cI, 12, .inl (upd (cSpr (z 21) (F 26) (F 27) i) (nI i).toNatClampNeg (1000 : Int32))))) (by decide) hA26
              have hA27 := va_ge (e := (ad 27, .inl (cI, 12, .inl (upd (cSpr (z 21) (F 26) (F 27) i) (nI i).toNatClampNeg (1000 : Int32))))) hA27
              refine lv_iinc (v := nI (i + 1)) (lv' := [(1, .int (nI (i + 1))), (2, .int ((((((F 26) i) + (((z 21) * (z 21)) / (2000 : Int32))) + ((((F 26) (i - 1)) - ((F 26) i)) / (8 : Int32))) + ((((F 26) (i + 1)) - ((F 26) i)) / (8 : Int32))) - ((((F 26) i) - (4 : Int32)) / (16 : Int32)))), (0, .ref am)]) hx hb dX8_pulseOfTime_146 hl (k := 2) rfl (nI_1 i) (by decide) rfl (fun ls hl => ?_)
              refine lv_goto (tgt := 13) hx hb dX8_pulseOfTime_149 (by decide) ?_
              have ew : (ws.set 27 (ad 27, .inl (cI, 12, .inl (cSpr (z 21) (F 26) (F 27) i)))).set 27 (ad 27, .inl (cI, 12, .inl (upd (cSpr (z 21) (F 26) (F 27) i) (nI i).toNatClampNeg (1000 : Int32)))) = ws.set 27 (ad 27, .inl (cI, 12, .inl (cSpr (z 21) (F 26) (F 27) (i + 1)))) := by subst h27; have e9 := mV_eq (z 21) (F 26) hlti; unfold mV4 mV3 mV2 mV1 at e9; simp only [c30, c54, c85, ↓reduceIte] at e9; rw [nI_clamp (show i < 2 ^ 31 by omega), List.set_set, ← cSpr_s, ← e9, jmin_b c135]
              have hP : va_P G vwCl ((ws.set 27 (ad 27, .inl (cI, 12, .inl (cSpr (z 21) (F 26) (F 27) i)))).set 27 (ad 27, .inl (cI, 12, .inl (upd (cSpr (z 21) (F 26) (F 27) i) (nI i).toNatClampNeg (1000 : Int32))))) H := hP
              have hD : va_D A ((ws.set 27 (ad 27, .inl (cI, 12, .inl (cSpr (z 21) (F 26) (F 27) i)))).set 27 (ad 27, .inl (cI, 12, .inl (upd (cSpr (z 21) (F 26) (F 27) i) (nI i).toNatClampNeg (1000 : Int32))))) := hD
              rw [ew] at hP hD
              exact ihi H _ ls hlti (trivial) hP hD hS (lv_sub hl [2, 0] rfl)
  · refine lv_aload_n hx hb dX8_pulseOfTime_7 rfl (lv_at hl 0 rfl) ?_
    refine va_callv (va_runV (As := []) (rest := []) ⟨hx, hb, hml, hown, hts⟩ (metX8_dumpOn l G tys htI _ hm hA26) (cwV 0 hts gX8_pulseOfTime_X8_dumpOn rfl rfl rfl (by decide +kernel) ⟨Nat.le_of_ble_eq_true rfl, Nat.le_of_ble_eq_true rfl⟩) ⟨pcM_b, va_recv hK hP (ci := 9) (q0 := 12) rfl hm, pcM_u hP hK hD hS hA⟩ rfl rfl hl.1 rfl (lv_room (Nat.le_of_ble_eq_true rfl)) dX8_pulseOfTime_8 ⟨Nat.le_of_ble_eq_true rfl, Nat.le_of_ble_eq_true rfl⟩) hS (fun q _ h => h) (fun q h => h) (fun u t H locs ht hvm hu hB hsz hk1 hS => ?_)
    rw [ht] at hB
    have hB := hB.1
    have hD := hD.set (e := .inr (9, mF ad (upd z 21 (cCur (z 21))) (wi + cWir (z 21) (F 26)) (dm + (cLost (z 21) - cWir (z 21) (F 26))))) hm
    have hA26 := va_gs (k := 12) (e := (am, .inr (9, mF ad (upd z 21 (cCur (z 21))) (wi + cWir (z 21) (F 26)) (dm + (cLost (z 21) - cWir (z 21) (F 26)))))) (by decide) hA26
    have hA27 := va_gs (k := 12) (e := (am, .inr (9, mF ad (upd z 21 (cCur (z 21))) (wi + cWir (z 21) (F 26)) (dm + (cLost (z 21) - cWir (z 21) (F 26)))))) (by decide) hA27
    have hm := va_ge (e := (am, .inr (9, mF ad (upd z 21 (cCur (z 21))) (wi + cWir (z 21) (F 26)) (dm + (cLost (z 21) - cWir (z 21) (F 26)))))) hm
    have hP : va_P G vwCl ((ws).set 12 (am, .inr (9, mF ad (upd z 21 (cCur (z 21))) (wi + cWir (z 21) (F 26)) (dm + (cLost (z 21) - cWir (z 21) (F 26)))))) H := hB
    have hD : va_D A ((ws).set 12 (am, .inr (9, mF ad (upd z 21 (cCur (z 21))) (wi + cWir (z 21) (F 26)) (dm + (cLost (z 21) - cWir (z 21) (F 26)))))) := hD
    refine lv_iconst (v := 0) hx hb dX8_pulseOfTime_11 (by decide) ?_
    refine lv_istore_n (lv' := [(1, .int (0 : Int32)), (0, .ref am)]) hx hb dX8_pulseOfTime_12 rfl hl (by decide) rfl (fun ls hl => ?_)
    have hm1 := hm
    have hA261 := hA26
    have hA271 := hA27
    refine loopM 12 13 3 (fun i => [(0, .ref am), (1, .int (nI i))]) (fun i => (ws.set 12 (am, .inr (9, mF ad (upd z 21 (cCur (z 21))) (wi + cWir (z 21) (F 26)) (dm + (cLost (z 21) - cWir (z 21) (F 26)))))).set 27 (ad 27, .inl (cI, 12, .inl (cSpr (cCur (z 21)) (F 26) (F 27) i)))) (fun i => True) (fun i hNi hKi ihi H locs ls hP hD hS hl => ?_) (i0 := 0) (by omega) (trivial) (by rw [cSpr_0, va_self hA27]; exact hP) (by rw [cSpr_0, va_self hA27]; exact hD) hS (lv_sub hl [1, 0] rfl)
    have hl : lv_has ls 3 [(0, .ref am), (1, .int (nI i))] := hl
    have hP : va_P G vwCl ((ws.set 12 (am, .inr (9, mF ad (upd z 21 (cCur (z 21))) (wi + cWir (z 21) (F 26)) (dm + (cLost (z 21) - cWir (z 21) (F 26)))))).set 27 (ad 27, .inl (cI, 12, .inl (cSpr (cCur (z 21)) (F 26) (F 27) i)))) H := hP
    have hD : va_D A ((ws.set 12 (am, .inr (9, mF ad (upd z 21 (cCur (z 21))) (wi + cWir (z 21) (F 26)) (dm + (cLost (z 21) - cWir (z 21) (F 26)))))).set 27 (ad 27, .inl (cI, 12, .inl (cSpr (cCur (z 21)) (F 26) (F 27) i)))) := hD
    have hm := va_gs (k := 27) (e := (ad 27, .inl (cI, 12, .inl (cSpr (cCur (z 21)) (F 26) (F 27) i)))) (by decide) hm1
    have hA26 := va_gs (k := 27) (e := (ad 27, .inl (cI, 12, .inl (cSpr (cCur (z 21)) (F 26) (F 27) i)))) (by decide) hA261
    have hA27 := va_ge (e := (ad 27, .inl (cI, 12, .inl (cSpr (cCur (z 21)) (F 26) (F 27) i)))) hA271
    refine lv_iload_n hx hb dX8_pulseOfTime_13 rfl (lv_at hl 1 rfl) ?_
    refine lv_bipush (v := 12) hx hb dX8_pulseOfTime_14 (by decide) ?_
    refine lv_icmp_ge (tgt := 152) hx hb dX8_pulseOfTime_16 (by decide) (fun c16 => ?_) (fun c16 => ?_)
    · have heqi : i = 12 := Nat.le_antisymm hNi ((nI_leI (by omega) (by omega)).mp c16)
      refine lv_iconst (v := 0) hx hb dX8_pulseOfTime_152 (by decide) ?_
      refine lv_istore_n (lv' := [(1, .int (0 : Int32)), (0, .ref am)]) hx hb dX8_pulseOfTime_153 rfl hl (by decide) rfl (fun ls hl => ?_)
      rw [heqi] at hP hD hm hA26 hA27
      have hm2 := hm
      have hA262 := hA26
      have hA272 := hA27
      refine loopM 12 154 3 (fun i => [(0, .ref am), (1, .int (nI i))]) (fun i => ((ws.set 12 (am, .inr (9, mF ad (upd z 21 (cCur (z 21))) (wi + cWir (z 21) (F 26)) (dm + (cLost (z 21) - cWir (z 21) (F 26)))))).set 27 (ad 27, .inl (cI, 12, .inl (cSpr (cCur (z 21)) (F 26) (F 27) 12)))).set 26 (ad 26, .inl (cI, 12, .inl (cCp (cSpr (cCur (z 21)) (F 26) (F 27) 12) (F 26) i)))) (fun i => True) (fun i hNi hKi ihi H locs ls hP hD hS hl => ?_) (i0 := 0) (by omega) (trivial) (by rw [cCp_0, va_self hA26]; exact hP) (by rw [cCp_0, va_self hA26]; exact hD) hS (lv_sub hl [1, 0] rfl)
      have hl : lv_has ls 3 [(0, .ref am), (1, .int (nI i))] := hl
      have hP : va_P G vwCl (((ws.set 12 (am, .inr (9, mF ad (upd z 21 (cCur (z 21))) (wi + cWir (z 21) (F 26)) (dm + (cLost (z 21) - cWir (z 21) (F 26)))))).set 27 (ad 27, .inl (cI, 12, .inl (cSpr (cCur (z 21)) (F 26) (F 27) 12)))).set 26 (ad 26, .inl (cI, 12, .inl (cCp (cSpr (cCur (z 21)) (F 26) (F 27) 12) (F 26) i)))) H := hP
      have hD : va_D A (((ws.set 12 (am, .inr (9, mF ad (upd z 21 (cCur (z 21))) (wi + cWir (z 21) (F 26)) (dm + (cLost (z 21) - cWir (z 21) (F 26)))))).set 27 (ad 27, .inl (cI, 12, .inl (cSpr (cCur (z 21)) (F 26) (F 27) 12)))).set 26 (ad 26, .inl (cI, 12, .inl (cCp (cSpr (cCur (z 21)) (F 26) (F 27) 12) (F 26) i)))) := hD
      have hm := va_gs (k := 26) (e := (ad 26, .inl (cI, 12, .inl (cCp (cSpr (cCur (z 21)) (F 26) (F 27) 12) (F 26) i)))) (by decide) hm2
      have hA27 := va_gs (k := 26) (e := (ad 26, .inl (cI, 12, .inl (cCp (cSpr (cCur (z 21)) (F 26) (F 27) 12) (F 26) i)))) (by decide) hA272
      have hA26 := va_ge (e := (ad 26, .inl (cI, 12, .inl (cCp (cSpr (cCur (z 21)) (F 26) (F 27) 12) (F 26) i)))) hA262
      refine lv_iload_n hx hb dX8_pulseOfTime_154 rfl (lv_at hl 1 rfl) ?_
      refine lv_bipush (v := 12) hx hb dX8_pulseOfTime_155 (by decide) ?_
      refine lv_icmp_ge (tgt := 178) hx hb dX8_pulseOfTime_157 (by decide) (fun c157 => ?_) (fun c157 => ?_)
      · have heqi : i = 12 := Nat.le_antisymm hNi ((nI_leI (by omega) (by omega)).mp c157)
        rw [heqi] at hP hD hm hA26 hA27
        refine lv_aload_n hx hb dX8_pulseOfTime_178 rfl (lv_at hl 0 rfl) ?_
        refine lv_aload_n hx hb dX8_pulseOfTime_179 rfl (lv_at hl 0 rfl) ?_
        refine vp_callSi (va_Run.run (va_runV (As := []) (rest := [.ref am]) ⟨hx, hb, hml, hown, hts⟩ (metX8_doubt l G tys htI _ (F := updF F 26 (cCp (cSpr (cCur (z 21)) (F 26) (F 27) 12) (F 26) 12)) hm hA26) (cwV 0 hts gX8_pulseOfTime_X8_doubt rfl rfl rfl (by decide +kernel) ⟨Nat.le_of_ble_eq_true rfl, Nat.le_of_ble_eq_true rfl⟩) ⟨pcR_b, va_recv hK hP (ci := 9) (q0 := 12) rfl hm, pcR_u hP hK⟩ rfl rfl hl.1 rfl (lv_room (Nat.le_of_ble_eq_true rfl)) dX8_pulseOfTime_180 ⟨Nat.le_of_ble_eq_true rfl, Nat.le_of_ble_eq_true rfl⟩)) (fun r180 h180 => ?_)
        have h180 : r180 = cDoubt (cCur (z 21)) (cCp (cSpr (cCur (z 21)) (F 26) (F 27) 12) (F 26) 12) := h180.trans (by rw [mCnt_eq, mCnt_eq]; rfl)
        refine vp_callSi (va_Run.run (va_runS (As := [.int r180]) (rest := [.ref am]) ⟨hx, hb, hml, hown, hts⟩ (metX8_size l r180) (va_cwS 1 hts gX8_pulseOfTime_X8_size rfl rfl rfl (by decide +kernel) ⟨Nat.le_of_ble_eq_true rfl, Nat.le_of_ble_eq_true rfl⟩) ⟨pc0_b, pc0_u⟩ rfl rfl hl.1 rfl (lv_room (Nat.le_of_ble_eq_true rfl)) dX8_pulseOfTime_183 ⟨Nat.le_of_ble_eq_true rfl, Nat.le_of_ble_eq_true rfl⟩)) (fun r183 h183 => ?_)
        refine lv_iconst (v := 2) hx hb dX8_pulseOfTime_186 (by decide) ?_
        refine lv_icmp_lt (tgt := 199) hx hb dX8_pulseOfTime_187 (by decide) (fun c187 => ?_) (fun c187 => ?_)
        · refine lv_iconst (v := 0) hx hb dX8_pulseOfTime_199 (by decide) ?_
          refine va_put (D := G) (ci := 9) (v := .int (0 : Int32)) (ty := .int) (C := RX8) (T := TX8) (N := 39) hx hb hts hiX8 tyX8 tyX8_ok nmX8 hown hK hP hD hS 12 hm rfl 23 (by decide) (hts (.fieldLink RX8 154 "VortexpinModel" "inRow" "I") (List.mem_of_getElem? (i := 5) rfl)) (fun _ h9 => h9) rfl (by decide +kernel) (rfl) (rfl) (Nat.le_of_ble_eq_true rfl) dX8_pulseOfTime_200 (fun H locs hP hD hS => ?_)
          have hP : va_P G vwCl ((((ws.set 12 (am, .inr (9, mF ad (upd z 21 (cCur (z 21))) (wi + cWir (z 21) (F 26)) (dm + (cLost (z 21) - cWir (z 21) (F 26)))))).set 27 (ad 27, .inl (cI, 12, .inl (cSpr (cCur (z 21)) (F 26) (F 27) 12)))).set 26 (ad 26, .inl (cI, 12, .inl (cCp (cSpr (cCur (z 21)) (F 26) (F 27) 12) (F 26) 12)))).set 12 (am, .inr (9, mF ad (upd (upd z 21 (cCur (z 21))) 23 (0 : Int32)) (wi + cWir (z 21) (F 26)) (dm + (cLost (z 21) - cWir (z 21) (F 26)))))) H := hP
          have hD : va_D A ((((ws.set 12 (am, .inr (9, mF ad (upd z 21 (cCur (z 21))) (wi + cWir (z 21) (F 26)) (dm + (cLost (z 21) - cWir (z 21) (F 26)))))).set 27 (ad 27, .inl (cI, 12, .inl (cSpr (cCur (z 21)) (F 26) (F 27) 12)))).set 26 (ad 26, .inl (cI, 12, .inl (cCp (cSpr (cCur (z 21)) (F 26) (F 27) 12) (F 26) 12)))).set 12 (am, .inr (9, mF ad (upd (upd z 21 (cCur (z 21))) 23 (0 : Int32)) (wi + cWir (z 21) (F 26)) (dm + (cLost (z 21) - cWir (z 21) (F 26)))))) := hD
          have hA26 := va_gs (k := 12) (e := (am, .inr (9, mF ad (upd (upd z 21 (cCur (z 21))) 23 (0 : Int32)) (wi + cWir (z 21) (F 26)) (dm + (cLost (z 21) - cWir (z 21) (F 26)))))) (by decide) hA26
          have hA27 := va_gs (k := 12) (e := (am, .inr (9, mF ad (upd (upd z 21 (cCur (z 21))) 23 (0 : Int32)) (wi + cWir (z 21) (F 26)) (dm + (cLost (z 21) - cWir (z 21) (F 26)))))) (by decide) hA27
          have hm := va_ge (e := (am, .inr (9, mF ad (upd (upd z 21 (cCur (z 21))) 23 (0 : Int32)) (wi + cWir (z 21) (F 26)) (dm + (cLost (z 21) - cWir (z 21) (F 26)))))) hm
          refine lv_aload_n hx hb dX8_pulseOfTime_203 rfl (lv_at hl 0 rfl) ?_
          refine lv_aload_n hx hb dX8_pulseOfTime_204 rfl (lv_at hl 0 rfl) ?_
          refine va_get (D := G) (ci := 9) (v := .int (z 22)) (C := RX8) (T := TX8) (N := 39) hx hb hts hiX8 hown hK hP 12 hm rfl 22 (by decide) (hts (.fieldLink RX8 150 "VortexpinModel" "isDumped" "Z") (List.mem_of_getElem? (i := 1) rfl)) (fun _ h9 => h9) rfl dX8_pulseOfTime_205 ?_
          refine lv_if_ne (tgt := 219) hx hb dX8_pulseOfTime_208 (by decide) (fun c208 => ?_) (fun c208 => ?_)
          · refine lv_iconst (v := 1) hx hb dX8_pulseOfTime_219 (by decide) ?_
            refine lv_goto (tgt := 224) hx hb dX8_pulseOfTime_220 (by decide) ?_
            refine va_put (D := G) (ci := 9) (v := .int (1 : Int32)) (ty := .boolean) (C := RX8) (T := TX8) (N := 39) hx hb hts hiX8 tyX8 tyX8_ok nmX8 hown hK hP hD hS 12 hm rfl 22 (by decide) (hts (.fieldLink RX8 150 "VortexpinModel" "isDumped" "Z") (List.mem_of_getElem? (i := 1) rfl)) (fun _ h9 => h9) rfl (by decide +kernel) (rfl) (rfl) (Nat.le_of_ble_eq_true rfl) dX8_pulseOfTime_224 (fun H locs hP hD hS => ?_)
            have hP : va_P G vwCl (((((ws.set 12 (am, .inr (9, mF ad (upd z 21 (cCur (z 21))) (wi + cWir (z 21) (F 26)) (dm + (cLost (z 21) - cWir (z 21) (F 26)))))).set 27 (ad 27, .inl (cI, 12, .inl (cSpr (cCur (z 21)) (F 26) (F 27) 12)))).set 26 (ad 26, .inl (cI, 12, .inl (cCp (cSpr (cCur (z 21)) (F 26) (F 27) 12) (F 26) 12)))).set 12 (am, .inr (9, mF ad (upd (upd z 21 (cCur (z 21))) 23 (0 : Int32)) (wi + cWir (z 21) (F 26)) (dm + (cLost (z 21) - cWir (z 21) (F 26)))))).set 12 (am, .inr (9, mF ad (upd (upd (upd z 21 (cCur (z 21))) 23 (0 : Int32)) 22 (1 : Int32)) (wi + cWir (z 21) (F 26)) (dm + (cLost (z 21) - cWir (z 21) (F 26)))))) H := hP
            have hD : va_D A (((((ws.set 12 (am, .inr (9, mF ad (upd z 21 (cCur (z 21))) (wi + cWir (z 21) (F 26)) (dm + (cLost (z 21) - cWir (z 21) (F 26)))))).set 27 (ad 27, .inl (cI, 12, .inl (cSpr (cCur (z 21)) (F 26) (F 27) 12)))).set 26 (ad 26, .inl (cI, 12, .inl (cCp (cSpr (cCur (z 21)) (F 26) (F 27) 12) (F 26) 12)))).set 12 (am, .inr (9, mF ad (upd (upd z 21 (cCur (z 21))) 23 (0 : Int32)) (wi + cWir (z 21) (F 26)) (dm + (cLost (z 21) - cWir (z 21) (F 26)))))).set 12 (am, .inr (9, mF ad (upd (upd (upd z 21 (cCur (z 21))) 23 (0 : Int32)) 22 (1 : Int32)) (wi + cWir (z 21) (F 26)) (dm + (cLost (z 21) - cWir (z 21) (F 26)))))) := hD
            have hA26 := va_gs (k := 12) (e := (am, .inr (9, mF ad (upd (upd (upd z 21 (cCur (z 21))) 23 (0 : Int32)) 22 (1 : Int32)) (wi + cWir (z 21) (F 26)) (dm + (cLost (z 21) - cWir (z 21) (F 26)))))) (by decide) hA26
            have hA27 := va_gs (k := 12) (e := (am, .inr (9, mF ad (upd (upd (upd z 21 (cCur (z 21))) 23 (0 : Int32)) 22 (1 : Int32)) (wi + cWir (z 21) (F 26)) (dm + (cLost (z 21) - cWir (z 21) (F 26)))))) (by decide) hA27
            have hm := va_ge (e := (am, .inr (9, mF ad (upd (upd (upd z 21 (cCur (z 21))) 23 (0 : Int32)) 22 (1 : Int32)) (wi + cWir (z 21) (F 26)) (dm + (cLost (z 21) - cWir (z 21) (F 26)))))) hm
            have ew : ((((ws.set 12 (am, .inr (9, mF ad (upd z 21 (cCur (z 21))) (wi + cWir (z 21) (F 26)) (dm + (cLost (z 21) - cWir (z 21) (F 26)))))).set 27 (ad 27, .inl (cI, 12, .inl (cSpr (cCur (z 21)) (F 26) (F 27) 12)))).set 26 (ad 26, .inl (cI, 12, .inl (cCp (cSpr (cCur (z 21)) (F 26) (F 27) 12) (F 26) 12)))).set 12 (am, .inr (9, mF ad (upd (upd z 21 (cCur (z 21))) 23 (0 : Int32)) (wi + cWir (z 21) (F 26)) (dm + (cLost (z 21) - cWir (z 21) (F 26)))))).set 12 (am, .inr (9, mF ad (upd (upd (upd z 21 (cCur (z 21))) 23 (0 : Int32)) 22 (1 : Int32)) (wi + cWir (z 21) (F 26)) (dm + (cLost (z 21) - cWir (z 21) (F 26))))) = ((ws.set 27 (ad 27, .inl (cI, 12, .inl (cSpr (if z 22 = 0 then z 21 else cCur (z 21)) (F 26) (F 27) 12)))).set 26 (ad 26, .inl (cI, 12, .inl (cCp (cSpr (if z 22 = 0 then z 21 else cCur (z 21)) (F 26) (F 27) 12) (F 26) 12)))).set 12 (am, .inr (9, mF ad (upd (upd (upd z 21 (if z 22 = 0 then z 21 else cCur (z 21))) 23 (cIr (if z 22 = 0 then z 21 else cCur (z 21)) (z 23) (cCp (cSpr (if z 22 = 0 then z 21 else cCur (z 21)) (F 26) (F 27) 12) (F 26) 12))) 22 (if z 22 = 0 then (if (cIr (if z 22 = 0 then z 21 else cCur (z 21)) (z 23) (cCp (cSpr (if z 22 = 0 then z 21 else cCur (z 21)) (F 26) (F 27) 12) (F 26) 12)) < 3 then 0 else 1) else 1)) (if z 22 = 0 then wi else wi + cWir (z 21) (F 26)) (if z 22 = 0 then dm else dm + (cLost (z 21) - cWir (z 21) (F 26))))) := by subst h180; subst h183; simp only [cIr, c4, c187, c208, upd_self, (show (0 : Int32) < 3 by decide), ↓reduceIte]; rw [List.set_set, set_3 (by decide) (by decide)] <;> rfl
            have hP : va_P G vwCl (((((ws.set 12 (am, .inr (9, mF ad (upd z 21 (cCur (z 21))) (wi + cWir (z 21) (F 26)) (dm + (cLost (z 21) - cWir (z 21) (F 26)))))).set 27 (ad 27, .inl (cI, 12, .inl (cSpr (cCur (z 21)) (F 26) (F 27) 12)))).set 26 (ad 26, .inl (cI, 12, .inl (cCp (cSpr (cCur (z 21)) (F 26) (F 27) 12) (F 26) 12)))).set 12 (am, .inr (9, mF ad (upd (upd z 21 (cCur (z 21))) 23 (0 : Int32)) (wi + cWir (z 21) (F 26)) (dm + (cLost (z 21) - cWir (z 21) (F 26)))))).set 12 (am, .inr (9, mF ad (upd (upd (upd z 21 (cCur (z 21))) 23 (0 : Int32)) 22 (1 : Int32)) (wi + cWir (z 21) (F 26)) (dm + (cLost (z 21) - cWir (z 21) (F 26)))))) H := hP
            have hD : va_D A (((((ws.set 12 (am, .inr (9, mF ad (upd z 21 (cCur (z 21))) (wi + cWir (z 21) (F 26)) (dm + (cLost (z 21) - cWir (z 21) (F 26)))))).set 27 (ad 27, .inl (cI, 12, .inl (cSpr (cCur (z 21)) (F 26) (F 27) 12)))).set 26 (ad 26, .inl (cI, 12, .inl (cCp (cSpr (cCur (z 21)) (F 26) (F 27) 12) (F 26) 12)))).set 12 (am, .inr (9, mF ad (upd (upd z 21 (cCur (z 21))) 23 (0 : Int32)) (wi + cWir (z 21) (F 26)) (dm + (cLost (z 21) - cWir (z 21) (F 26)))))).set 12 (am, .inr (9, mF ad (upd (upd (upd z 21 (cCur (z 21))) 23 (0 : Int32)) 22 (1 : Int32)) (wi + cWir (z 21) (F 26)) (dm + (cLost (z 21) - cWir (z 21) (F 26)))))) := hD
            rw [ew] at hP hD
            exact W.vret hx hb hr (fun t ht hW => ⟨⟨(), rfl, trivial, by show va_P G vwCl _ t.heap ∧ va_D A _; rw [ht]; exact ⟨hP, hD⟩⟩, hS.F ht⟩) hS.2.2 dX8_pulseOfTime_227
          · refine lv_aload_n hx hb dX8_pulseOfTime_211 rfl (lv_at hl 0 rfl) ?_
            refine va_get (D := G) (ci := 9) (v := .int (0 : Int32)) (C := RX8) (T := TX8) (N := 39) hx hb hts hiX8 hown hK hP 12 hm rfl 23 (by decide) (hts (.fieldLink RX8 154 "VortexpinModel" "inRow" "I") (List.mem_of_getElem? (i := 5) rfl)) (fun _ h9 => h9) rfl dX8_pulseOfTime_212 ?_
            refine lv_iconst (v := 3) hx hb dX8_pulseOfTime_215 (by decide) ?_
            refine lv_icmp_lt (tgt := 223) hx hb dX8_pulseOfTime_216 (by decide) (fun c216 => ?_) (fun c216 => absurd (by decide) c216)
            refine lv_iconst (v := 0) hx hb dX8_pulseOfTime_223 (by decide) ?_
            refine va_put (D := G) (ci := 9) (v := .int (0 : Int32)) (ty := .boolean) (C := RX8) (T := TX8) (N := 39) hx hb hts hiX8 tyX8 tyX8_ok nmX8 hown hK hP hD hS 12 hm rfl 22 (by decide) (hts (.fieldLink RX8 150 "VortexpinModel" "isDumped" "Z") (List.mem_of_getElem? (i := 1) rfl)) (fun _ h9 => h9) rfl (by decide +kernel) (rfl) (rfl) (Nat.le_of_ble_eq_true rfl) dX8_pulseOfTime_224 (fun H locs hP hD hS => ?_)
            have hP : va_P G vwCl (((((ws.set 12 (am, .inr (9, mF ad (upd z 21 (cCur (z 21))) (wi + cWir (z 21) (F 26)) (dm + (cLost (z 21) - cWir (z 21) (F 26)))))).set 27 (ad 27, .inl (cI, 12, .inl (cSpr (cCur (z 21)) (F 26) (F 27) 12)))).set 26 (ad 26, .inl (cI, 12, .inl (cCp (cSpr (cCur (z 21)) (F 26) (F 27) 12) (F 26) 12)))).set 12 (am, .inr (9, mF ad (upd (upd z 21 (cCur (z 21))) 23 (0 : Int32)) (wi + cWir (z 21) (F 26)) (dm + (cLost (z 21) - cWir (z 21) (F 26)))))).set 12 (am, .inr (9, mF ad (upd (upd (upd z 21 (cCur (z 21))) 23 (0 : Int32)) 22 (0 : Int32)) (wi + cWir (z 21) (F 26)) (dm + (cLost (z 21) - cWir (z 21) (F 26)))))) H := hP
            have hD : va_D A (((((ws.set 12 (am, .inr (9, mF ad (upd z 21 (cCur (z 21))) (wi + cWir (z 21) (F 26)) (dm + (cLost (z 21) - cWir (z 21) (F 26)))))).set 27 (ad 27, .inl (cI, 12, .inl (cSpr (cCur (z 21)) (F 26) (F 27) 12)))).set 26 (ad 26, .inl (cI, 12, .inl (cCp (cSpr (cCur (z 21)) (F 26) (F 27) 12) (F 26) 12)))).set 12 (am, .inr (9, mF ad (upd (upd z 21 (cCur (z 21))) 23 (0 : Int32)) (wi + cWir (z 21) (F 26)) (dm + (cLost (z 21) - cWir (z 21) (F 26)))))).set 12 (am, .inr (9, mF ad (upd (upd (upd z 21 (cCur (z 21))) 23 (0 : Int32)) 22 (0 : Int32)) (wi + cWir (z 21) (F 26)) (dm + (cLost (z 21) - cWir (z 21) (F 26)))))) := hD
            have hA26 := va_gs (k := 12) (e := (am, .inr (9, mF ad (upd (upd (upd z 21 (cCur (z 21))) 23 (0 : Int32)) 22 (0 : Int32)) (wi + cWir (z 21) (F 26)) (dm + (cLost (z 21) - cWir (z 21) (F 26)))))) (by decide) hA26
            have hA27 := va_gs (k := 12) (e := (am, .inr (9, mF ad (upd (upd (upd z 21 (cCur (z 21))) 23 (0 : Int32)) 22 (0 : Int32)) (wi + cWir (z 21) (F 26)) (dm + (cLost (z 21) - cWir (z 21) (F 26)))))) (by decide) hA27
            have hm := va_ge (e := (am, .inr (9, mF ad (upd (upd (upd z 21 (cCur (z 21))) 23 (0 : Int32)) 22 (0 : Int32)) (wi + cWir (z 21) (F 26)) (dm + (cLost (z 21) - cWir (z 21) (F 26)))))) hm
            have ew : ((((ws.set 12 (am, .inr (9, mF ad (upd z 21 (cCur (z 21))) (wi + cWir (z 21) (F 26)) (dm + (cLost (z 21) - cWir (z 21) (F 26)))))).set 27 (ad 27, .inl (cI, 12, .inl (cSpr (cCur (z 21)) (F 26) (F 27) 12)))).set 26 (ad 26, .inl (cI, 12, .inl (cCp (cSpr (cCur (z 21)) (F 26) (F 27) 12) (F 26) 12)))).set 12 (am, .inr (9, mF ad (upd (upd z 21 (cCur (z 21))) 23 (0 : Int32)) (wi + cWir (z 21) (F 26)) (dm + (cLost (z 21) - cWir (z 21) (F 26)))))).set 12 (am, .inr (9, mF ad (upd (upd (upd z 21 (cCur (z 21))) 23 (0 : Int32)) 22 (0 : Int32)) (wi + cWir (z 21) (F 26)) (dm + (cLost (z 21) - cWir (z 21) (F 26))))) = ((ws.set 27 (ad 27, .inl (cI, 12, .inl (cSpr (if z 22 = 0 then z 21 else cCur (z 21)) (F 26) (F 27) 12)))).set 26 (ad 26, .inl (cI, 12, .inl (cCp (cSpr (if z 22 = 0 then z 21 else cCur (z 21)) (F 26) (F 27) 12) (F 26) 12)))).set 12 (am, .inr (9, mF ad (upd (upd (upd z 21 (if z 22 = 0 then z 21 else cCur (z 21))) 23 (cIr (if z 22 = 0 then z 21 else cCur (z 21)) (z 23) (cCp (cSpr (if z 22 = 0 then z 21 else cCur (z 21)) (F 26) (F 27) 12) (F 26) 12))) 22 (if z 22 = 0 then (if (cIr (if z 22 = 0 then z 21 else cCur (z 21)) (z 23) (cCp (cSpr (if z 22 = 0 then z 21 else cCur (z 21)) (F 26) (F 27) 12) (F 26) 12)) < 3 then 0 else 1) else 1)) (if z 22 = 0 then wi else wi + cWir (z 21) (F 26)) (if z 22 = 0 then dm else dm + (cLost (z 21) - cWir (z 21) (F 26))))) := by exact absurd c208 c4
            have hP : va_P G vwCl (((((ws.set 12 (am, .inr (9, mF ad (upd z 21 (cCur (z 21))) (wi + cWir (z 21) (F 26)) (dm + (cLost (z 21) - cWir (z 21) (F 26)))))).set 27 (ad 27, .inl (cI, 12, .inl (cSpr (cCur (z 21)) (F 26) (F 27) 12)))).set 26 (ad 26, .inl (cI, 12, .inl (cCp (cSpr (cCur (z 21)) (F 26) (F 27) 12) (F 26) 12)))).set 12 (am, .inr (9, mF ad (upd (upd z 21 (cCur (z 21))) 23 (0 : Int32)) (wi + cWir (z 21) (F 26)) (dm + (cLost (z 21) - cWir (z 21) (F 26)))))).set 12 (am, .inr (9, mF ad (upd (upd (upd z 21 (cCur (z 21))) 23 (0 : Int32)) 22 (0 : Int32)) (wi + cWir (z 21) (F 26)) (dm + (cLost (z 21) - cWir (z 21) (F 26)))))) H := hP
            have hD : va_D A (((((ws.set 12 (am, .inr (9, mF ad (upd z 21 (cCur (z 21))) (wi + cWir (z 21) (F 26)) (dm + (cLost (z 21) - cWir (z 21) (F 26)))))).set 27 (ad 27, .inl (cI, 12, .inl (cSpr (cCur (z 21)) (F 26) (F 27) 12)))).set 26 (ad 26, .inl (cI, 12, .inl (cCp (cSpr (cCur (z 21)) (F 26) (F 27) 12) (F 26) 12)))).set 12 (am, .inr (9, mF ad (upd (upd z 21 (cCur (z 21))) 23 (0 : Int32)) (wi + cWir (z 21) (F 26)) (dm + (cLost (z 21) - cWir (z 21) (F 26)))))).set 12 (am, .inr (9, mF ad (upd (upd (upd z 21 (cCur (z 21))) 23 (0 : Int32)) 22 (0 : Int32)) (wi + cWir (z 21) (F 26)) (dm + (cLost (z 21) - cWir (z 21) (F 26)))))) := hD
            rw [ew] at hP hD
            exact W.vret hx hb hr (fun t ht hW => ⟨⟨(), rfl, trivial, by show va_P G vwCl _ t.heap ∧ va_D A _; rw [ht]; exact ⟨hP, hD⟩⟩, hS.F ht⟩) hS.2.2 dX8_pulseOfTime_227
        · refine lv_aload_n hx hb dX8_pulseOfTime_190 rfl (lv_at hl 0 rfl) ?_
          refine va_get (D := G) (ci := 9) (v := .int (z 23)) (C := RX8) (T := TX8) (N := 39) hx hb hts hiX8 hown hK hP 12 hm rfl 23 (by decide) (hts (.fieldLink RX8 154 "VortexpinModel" "inRow" "I") (List.mem_of_getElem? (i := 5) rfl)) (fun _ h9 => h9) rfl dX8_pulseOfTime_191 ?_
          refine lv_iconst (v := 1) hx hb dX8_pulseOfTime_194 (by decide) ?_
          refine lv_iadd hx hb dX8_pulseOfTime_195 ?_
          refine lv_goto (tgt := 200) hx hb dX8_pulseOfTime_196 (by decide) ?_
          refine va_put (D := G) (ci := 9) (v := .int ((z 23) + (1 : Int32))) (ty := .int) (C := RX8) (T := TX8) (N := 39) hx hb hts hiX8 tyX8 tyX8_ok nmX8 hown hK hP hD hS 12 hm rfl 23 (by decide) (hts (.fieldLink RX8 154 "VortexpinModel" "inRow" "I") (List.mem_of_getElem? (i := 5) rfl)) (fun _ h9 => h9) rfl (by decide +kernel) (rfl) (rfl) (Nat.le_of_ble_eq_true rfl) dX8_pulseOfTime_200 (fun H locs hP hD hS => ?_)
          have hP : va_P G vwCl ((((ws.set 12 (am, .inr (9, mF ad (upd z 21 (cCur (z 21))) (wi + cWir (z 21) (F 26)) (dm + (cLost (z 21) - cWir (z 21) (F 26)))))).set 27 (ad 27, .inl (cI, 12, .inl (cSpr (cCur (z 21)) (F 26) (F 27) 12)))).set 26 (ad 26, .inl (cI, 12, .inl (cCp (cSpr (cCur (z 21)) (F 26) (F 27) 12) (F 26) 12)))).set 12 (am, .inr (9, mF ad (upd (upd z 21 (cCur (z 21))) 23 ((z 23) + (1 : Int32))) (wi + cWir (z 21) (F 26)) (dm + (cLost (z 21) - cWir (z 21) (F 26)))))) H := hP
          have hD : va_D A ((((ws.set 12 (am, .inr (9, mF ad (upd z 21 (cCur (z 21))) (wi + cWir (z 21) (F 26)) (dm + (cLost (z 21) - cWir (z 21) (F 26)))))).set 27 (ad 27, .inl (cI, 12, .inl (cSpr (cCur (z 21)) (F 26) (F 27) 12)))).set 26 (ad 26, .inl (cI, 12, .inl (cCp (cSpr (cCur (z 21)) (F 26) (F 27) 12) (F 26) 12)))).set 12 (am, .inr (9, mF ad (upd (upd z 21 (cCur (z 21))) 23 ((z 23) + (1 : Int32))) (wi + cWir (z 21) (F 26)) (dm + (cLost (z 21) - cWir (z 21) (F 26)))))) := hD
          have hA26 := va_gs (k := 12) (e := (am, .inr (9, mF ad (upd (upd z 21 (cCur (z 21))) 23 ((z 23) + (1 : Int32))) (wi + cWir (z 21) (F 26)) (dm + (cLost (z 21) - cWir (z 21) (F 26)))))) (by decide) hA26
          have hA27 := va_gs (k := 12) (e := (am, .inr (9, mF ad (upd (upd z 21 (cCur (z 21))) 23 ((z 23) + (1 : Int32))) (wi + cWir (z 21) (F 26)) (dm + (cLost (z 21) - cWir (z 21) (F 26)))))) (by decide) hA27
          have hm := va_ge (e := (am, .inr (9, mF ad (upd (upd z 21 (cCur (z 21))) 23 ((z 23) + (1 : Int32))) (wi + cWir (z 21) (F 26)) (dm + (cLost (z 21) - cWir (z 21) (F 26)))))) hm
          refine lv_aload_n hx hb dX8_pulseOfTime_203 rfl (lv_at hl 0 rfl) ?_
          refine lv_aload_n hx hb dX8_pulseOfTime_204 rfl (lv_at hl 0 rfl) ?_
          refine va_get (D := G) (ci := 9) (v := .int (z 22)) (C := RX8) (T := TX8) (N := 39) hx hb hts hiX8 hown hK hP 12 hm rfl 22 (by decide) (hts (.fieldLink RX8 150 "VortexpinModel" "isDumped" "Z") (List.mem_of_getElem? (i := 1) rfl)) (fun _ h9 => h9) rfl dX8_pulseOfTime_205 ?_
          refine lv_if_ne (tgt := 219) hx hb dX8_pulseOfTime_208 (by decide) (fun c208 => ?_) (fun c208 => ?_)
          · refine lv_iconst (v := 1) hx hb dX8_pulseOfTime_219 (by decide) ?_
            refine lv_goto (tgt := 224) hx hb dX8_pulseOfTime_220 (by decide) ?_
            refine va_put (D := G) (ci := 9) (v := .int (1 : Int32)) (ty := .boolean) (C := RX8) (T := TX8) (N := 39) hx hb hts hiX8 tyX8 tyX8_ok nmX8 hown hK hP hD hS 12 hm rfl 22 (by decide) (hts (.fieldLink RX8 150 "VortexpinModel" "isDumped" "Z") (List.mem_of_getElem? (i := 1) rfl)) (fun _ h9 => h9) rfl (by decide +kernel) (rfl) (rfl) (Nat.le_of_ble_eq_true rfl) dX8_pulseOfTime_224 (fun H locs hP hD hS => ?_)
            have hP : va_P G vwCl (((((ws.set 12 (am, .inr (9, mF ad (upd z 21 (cCur (z 21))) (wi + cWir (z 21) (F 26)) (dm + (cLost (z 21) - cWir (z 21) (F 26)))))).set 27 (ad 27, .inl (cI, 12, .inl (cSpr (cCur (z 21)) (F 26) (F 27) 12)))).set 26 (ad 26, .inl (cI, 12, .inl (cCp (cSpr (cCur (z 21)) (F 26) (F 27) 12) (F 26) 12)))).set 12 (am, .inr (9, mF ad (upd (upd z 21 (cCur (z 21))) 23 ((z 23) + (1 : Int32))) (wi + cWir (z 21) (F 26)) (dm + (cLost (z 21) - cWir (z 21) (F 26)))))).set 12 (am, .inr (9, mF ad (upd (upd (upd z 21 (cCur (z 21))) 23 ((z 23) + (1 : Int32))) 22 (1 : Int32)) (wi + cWir (z 21) (F 26)) (dm + (cLost (z 21) - cWir (z 21) (F 26)))))) H := hP
            have hD : va_D A (((((ws.set 12 (am, .inr (9, mF ad (upd z 21 (cCur (z 21))) (wi + cWir (z 21) (F 26)) (dm + (cLost (z 21) - cWir (z 21) (F 26)))))).set 27 (ad 27, .inl (cI, 12, .inl (cSpr (cCur (z 21)) (F 26) (F 27) 12)))).set 26 (ad 26, .inl (cI, 12, .inl (cCp (cSpr (cCur (z 21)) (F 26) (F 27) 12) (F 26) 12)))).set 12 (am, .inr (9, mF ad (upd (upd z 21 (cCur (z 21))) 23 ((z 23) + (1 : Int32))) (wi + cWir (z 21) (F 26)) (dm + (cLost (z 21) - cWir (z 21) (F 26)))))).set 12 (am, .inr (9, mF ad (upd (upd (upd z 21 (cCur (z 21))) 23 ((z 23) + (1 : Int32))) 22 (1 : Int32)) (wi + cWir (z 21) (F 26)) (dm + (cLost (z 21) - cWir (z 21) (F 26)))))) := hD
            have hA26 := va_gs (k := 12) (e := (am, .inr (9, mF ad (upd (upd (upd z 21 (cCur (z 21))) 23 ((z 23) + (1 : Int32))) 22 (1 : Int32)) (wi + cWir (z 21) (F 26)) (dm + (cLost (z 21) - cWir (z 21) (F 26)))))) (by decide) hA26
            have hA27 := va_gs (k := 12) (e := (am, .inr (9, mF ad (upd (upd (upd z 21 (cCur (z 21))) 23 ((z 23) + (1 : Int32))) 22 (1 : Int32)) (wi + cWir (z 21) (F 26)) (dm + (cLost (z 21) - cWir (z 21) (F 26)))))) (by decide) hA27
            have hm := va_ge (e := (am, .inr (9, mF ad (upd (upd (upd z 21 (cCur (z 21))) 23 ((z 23) + (1 : Int32))) 22 (1 : Int32)) (wi + cWir (z 21) (F 26)) (dm + (cLost (z 21) - cWir (z 21) (F 26)))))) hm
            have ew : ((((ws.set 12 (am, .inr (9, mF ad (upd z 21 (cCur (z 21))) (wi + cWir (z 21) (F 26)) (dm + (cLost (z 21) - cWir (z 21) (F 26)))))).set 27 (ad 27, .inl (cI, 12, .inl (cSpr (cCur (z 21)) (F 26) (F 27) 12)))).set 26 (ad 26, .inl (cI, 12, .inl (cCp (cSpr (cCur (z 21)) (F 26) (F 27) 12) (F 26) 12)))).set 12 (am, .inr (9, mF ad (upd (upd z 21 (cCur (z 21))) 23 ((z 23) + (1 : Int32))) (wi + cWir (z 21) (F 26)) (dm + (cLost (z 21) - cWir (z 21) (F 26)))))).set 12 (am, .inr (9, mF ad (upd (upd (upd z 21 (cCur (z 21))) 23 ((z 23) + (1 : Int32))) 22 (1 : Int32)) (wi + cWir (z 21) (F 26)) (dm + (cLost (z 21) - cWir (z 21) (F 26))))) = ((ws.set 27 (ad 27, .inl (cI, 12, .inl (cSpr (if z 22 = 0 then z 21 else cCur (z 21)) (F 26) (F 27) 12)))).set 26 (ad 26, .inl (cI, 12, .inl (cCp (cSpr (if z 22 = 0 then z 21 else cCur (z 21)) (F 26) (F 27) 12) (F 26) 12)))).set 12 (am, .inr (9, mF ad (upd (upd (upd z 21 (if z 22 = 0 then z 21 else cCur (z 21))) 23 (cIr (if z 22 = 0 then z 21 else cCur (z 21)) (z 23) (cCp (cSpr (if z 22 = 0 then z 21 else cCur (z 21)) (F 26) (F 27) 12) (F 26) 12))) 22 (if z 22 = 0 then (if (cIr (if z 22 = 0 then z 21 else cCur (z 21)) (z 23) (cCp (cSpr (if z 22 = 0 then z 21 else cCur (z 21)) (F 26) (F 27) 12) (F 26) 12)) < 3 then 0 else 1) else 1)) (if z 22 = 0 then wi else wi + cWir (z 21) (F 26)) (if z 22 = 0 then dm else dm + (cLost (z 21) - cWir (z 21) (F 26))))) := by subst h180; subst h183; simp only [cIr, c4, c187, c208, upd_self, (show (0 : Int32) < 3 by decide), ↓reduceIte]; rw [List.set_set, set_3 (by decide) (by decide)] <;> rfl
            have hP : va_P G vwCl (((((ws.set 12 (am, .inr (9, mF ad (upd z 21 (cCur (z 21))) (wi + cWir (z 21) (F 26)) (dm + (cLost (z 21) - cWir (z 21) (F 26)))))).set 27 (ad 27, .inl (cI, 12, .inl (cSpr (cCur (z 21)) (F 26) (F 27) 12)))).set 26 (ad 26, .inl (cI, 12, .inl (cCp (cSpr (cCur (z 21)) (F 26) (F 27) 12) (F 26) 12)))).set 12 (am, .inr (9, mF ad (upd (upd z 21 (cCur (z 21))) 23 ((z 23) + (1 : Int32))) (wi + cWir (z 21) (F 26)) (dm + (cLost (z 21) - cWir (z 21) (F 26)))))).set 12 (am, .inr (9, mF ad (upd (upd (upd z 21 (cCur (z 21))) 23 ((z 23) + (1 : Int32))) 22 (1 : Int32)) (wi + cWir (z 21) (F 26)) (dm + (cLost (z 21) - cWir (z 21) (F 26)))))) H := hP
            have hD : va_D A (((((ws.set 12 (am, .inr (9, mF ad (upd z 21 (cCur (z 21))) (wi + cWir (z 21) (F 26)) (dm + (cLost (z 21) - cWir (z 21) (F 26)))))).set 27 (ad 27, .inl (cI, 12, .inl (cSpr (cCur (z 21)) (F 26) (F 27) 12)))).set 26 (ad 26, .inl (cI, 12, .inl (cCp (cSpr (cCur (z 21)) (F 26) (F 27) 12) (F 26) 12)))).set 12 (am, .inr (9, mF ad (upd (upd z 21 (cCur (z 21))) 23 ((z 23) + (1 : Int32))) (wi + cWir (z 21) (F 26)) (dm + (cLost (z 21) - cWir (z 21) (F 26)))))).set 12 (am, .inr (9, mF ad (upd (upd (upd z 21 (cCur (z 21))) 23 ((z 23) + (1 : Int32))) 22 (1 : Int32)) (wi + cWir (z 21) (F 26)) (dm + (cLost (z 21) - cWir (z 21) (F 26)))))) := hD
            rw [ew] at hP hD
            exact W.vret hx hb hr (fun t ht hW => ⟨⟨(), rfl, trivial, by show va_P G vwCl _ t.heap ∧ va_D A _; rw [ht]; exact ⟨hP, hD⟩⟩, hS.F ht⟩) hS.2.2 dX8_pulseOfTime_227
          · refine lv_aload_n hx hb dX8_pulseOfTime_211 rfl (lv_at hl 0 rfl) ?_
            refine va_get (D := G) (ci := 9) (v := .int ((z 23) + (1 : Int32))) (C := RX8) (T := TX8) (N := 39) hx hb hts hiX8 hown hK hP 12 hm rfl 23 (by decide) (hts (.fieldLink RX8 154 "VortexpinModel" "inRow" "I") (List.mem_of_getElem? (i := 5) rfl)) (fun _ h9 => h9) rfl dX8_pulseOfTime_212 ?_
            refine lv_iconst (v := 3) hx hb dX8_pulseOfTime_215 (by decide) ?_
            refine lv_icmp_lt (tgt := 223) hx hb dX8_pulseOfTime_216 (by decide) (fun c216 => ?_) (fun c216 => ?_)
            · refine lv_iconst (v := 0) hx hb dX8_pulseOfTime_223 (by decide) ?_
              refine va_put (D := G) (ci := 9) (v := .int (0 : Int32)) (ty := .boolean) (C := RX8) (T := TX8) (N := 39) hx hb hts hiX8 tyX8 tyX8_ok nmX8 hown hK hP hD hS 12 hm rfl 22 (by decide) (hts (.fieldLink RX8 150 "VortexpinModel" "isDumped" "Z") (List.mem_of_getElem? (i := 1) rfl)) (fun _ h9 => h9) rfl (by decide +kernel) (rfl) (rfl) (Nat.le_of_ble_eq_true rfl) dX8_pulseOfTime_224 (fun H locs hP hD hS => ?_)
              have hP : va_P G vwCl (((((ws.set 12 (am, .inr (9, mF ad (upd z 21 (cCur (z 21))) (wi + cWir (z 21) (F 26)) (dm + (cLost (z 21) - cWir (z 21) (F 26)))))).set 27 (ad 27, .inl (cI, 12, .inl (cSpr (cCur (z 21)) (F 26) (F 27) 12)))).set 26 (ad 26, .inl (cI, 12, .inl (cCp (cSpr (cCur (z 21)) (F 26) (F 27) 12) (F 26) 12)))).set 12 (am, .inr (9, mF ad (upd (upd z 21 (cCur (z 21))) 23 ((z 23) + (1 : Int32))) (wi + cWir (z 21) (F 26)) (dm + (cLost (z 21) - cWir (z 21) (F 26)))))).set 12 (am, .inr (9, mF ad (upd (upd (upd z 21 (cCur (z 21))) 23 ((z 23) + (1 : Int32))) 22 (0 : Int32)) (wi + cWir (z 21) (F 26)) (dm + (cLost (z 21) - cWir (z 21) (F 26)))))) H := hP
              have hD : va_D A (((((ws.set 12 (am, .inr (9, mF ad (upd z 21 (cCur (z 21))) (wi + cWir (z 21) (F 26)) (dm + (cLost (z 21) - cWir (z 21) (F 26)))))).set 27 (ad 27, .inl (cI, 12, .inl (cSpr (cCur (z 21)) (F 26) (F 27) 12)))).set 26 (ad 26, .inl (cI, 12, .inl (cCp (cSpr (cCur (z 21)) (F 26) (F 27) 12) (F 26) 12)))).set 12 (am, .inr (9, mF ad (upd (upd z 21 (cCur (z 21))) 23 ((z 23) + (1 : Int32))) (wi + cWir (z 21) (F 26)) (dm + (cLost (z 21) - cWir (z 21) (F 26)))))).set 12 (am, .inr (9, mF ad (upd (upd (upd z 21 (cCur (z 21))) 23 ((z 23) + (1 : Int32))) 22 (0 : Int32)) (wi + cWir (z 21) (F 26)) (dm + (cLost (z 21) - cWir (z 21) (F 26)))))) := hD
              have hA26 := va_gs (k := 12) (e := (am, .inr (9, mF ad (upd (upd (upd z 21 (cCur (z 21))) 23 ((z 23) + (1 : Int32))) 22 (0 : Int32)) (wi + cWir (z 21) (F 26)) (dm + (cLost (z 21) - cWir (z 21) (F 26)))))) (by decide) hA26
              have hA27 := va_gs (k := 12) (e := (am, .inr (9, mF ad (upd (upd (upd z 21 (cCur (z 21))) 23 ((z 23) + (1 : Int32))) 22 (0 : Int32)) (wi + cWir (z 21) (F 26)) (dm + (cLost (z 21) - cWir (z 21) (F 26)))))) (by decide) hA27
              have hm := va_ge (e := (am, .inr (9, mF ad (upd (upd (upd z 21 (cCur (z 21))) 23 ((z 23) + (1 : Int32))) 22 (0 : Int32)) (wi + cWir (z 21) (F 26)) (dm + (cLost (z 21) - cWir (z 21) (F 26)))))) hm
              have ew : ((((ws.set 12 (am, .inr (9, mF ad (upd z 21 (cCur (z 21))) (wi + cWir (z 21) (F 26)) (dm + (cLost (z 21) - cWir (z 21) (F 26)))))).set 27 (ad 27, .inl (cI, 12, .inl (cSpr (cCur (z 21)) (F 26) (F 27) 12)))).set 26 (ad 26, .inl (cI, 12, .inl (cCp (cSpr (cCur (z 21)) (F 26) (F 27) 12) (F 26) 12)))).set 12 (am, .inr (9, mF ad (upd (upd z 21 (cCur (z 21))) 23 ((z 23) + (1 : Int32))) (wi + cWir (z 21) (F 26)) (dm + (cLost (z 21) - cWir (z 21) (F 26)))))).set 12 (am, .inr (9, mF ad (upd (upd (upd z 21 (cCur (z 21))) 23 ((z 23) + (1 : Int32))) 22 (0 : Int32)) (wi + cWir (z 21) (F 26)) (dm + (cLost (z 21) - cWir (z 21) (F 26))))) = ((ws.set 27 (ad 27, .inl (cI, 12, .inl (cSpr (if z 22 = 0 then z 21 else cCur (z 21)) (F 26) (F 27) 12)))).set 26 (ad 26, .inl (cI, 12, .inl (cCp (cSpr (if z 22 = 0 then z 21 else cCur (z 21)) (F 26) (F 27) 12) (F 26) 12)))).set 12 (am, .inr (9, mF ad (upd (upd (upd z 21 (if z 22 = 0 then z 21 else cCur (z 21))) 23 (cIr (if z 22 = 0 then z 21 else cCur (z 21)) (z 23) (cCp (cSpr (if z 22 = 0 then z 21 else cCur (z 21)) (F 26) (F 27) 12) (F 26) 12))) 22 (if z 22 = 0 then (if (cIr (if z 22 = 0 then z 21 else cCur (z 21)) (z 23) (cCp (cSpr (if z 22 = 0 then z 21 else cCur (z 21)) (F 26) (F 27) 12) (F 26) 12)) < 3 then 0 else 1) else 1)) (if z 22 = 0 then wi else wi + cWir (z 21) (F 26)) (if z 22 = 0 then dm else dm + (cLost (z 21) - cWir (z 21) (F 26))))) := by exact absurd c208 c4
              have hP : va_P G vwCl (((((ws.set 12 (am, .inr (9, mF ad (upd z 21 (cCur (z 21))) (wi + cWir (z 21) (F 26)) (dm + (cLost (z 21) - cWir (z 21) (F 26)))))).set 27 (ad 27, .inl (cI, 12, .inl (cSpr (cCur (z 21)) (F 26) (F 27) 12)))).set 26 (ad 26, .inl (cI, 12, .inl (cCp (cSpr (cCur (z 21)) (F 26) (F 27) 12) (F 26) 12)))).set 12 (am, .inr (9, mF ad (upd (upd z 21 (cCur (z 21))) 23 ((z 23) + (1 : Int32))) (wi + cWir (z 21) (F 26)) (dm + (cLost (z 21) - cWir (z 21) (F 26)))))).set 12 (am, .inr (9, mF ad (upd (upd (upd z 21 (cCur (z 21))) 23 ((z 23) + (1 : Int32))) 22 (0 : Int32)) (wi + cWir (z 21) (F 26)) (dm + (cLost (z 21) - cWir (z 21) (F 26)))))) H := hP
              have hD : va_D A (((((ws.set 12 (am, .inr (9, mF ad (upd z 21 (cCur (z 21))) (wi + cWir (z 21) (F 26)) (dm + (cLost (z 21) - cWir (z 21) (F 26)))))).set 27 (ad 27, .inl (cI, 12, .inl (cSpr (cCur (z 21)) (F 26) (F 27) 12)))).set 26 (ad 26, .inl (cI, 12, .inl (cCp (cSpr (cCur (z 21)) (F 26) (F 27) 12) (F 26) 12)))).set 12 (am, .inr (9, mF ad (upd (upd z 21 (cCur (z 21))) 23 ((z 23) + (1 : Int32))) (wi + cWir (z 21) (F 26)) (dm + (cLost (z 21) - cWir (z 21) (F 26)))))).set 12 (am, .inr (9, mF ad (upd (upd (upd z 21 (cCur (z 21))) 23 ((z 23) + (1 : Int32))) 22 (0 : Int32)) (wi + cWir (z 21) (F 26)) (dm + (cLost (z 21) - cWir (z 21) (F 26)))))) := hD
              rw [ew] at hP hD
              exact W.vret hx hb hr (fun t ht hW => ⟨⟨(), rfl, trivial, by show va_P G vwCl _ t.heap ∧ va_D A _; rw [ht]; exact ⟨hP, hD⟩⟩, hS.F ht⟩) hS.2.2 dX8_pulseOfTime_227
            · refine lv_iconst (v := 1) hx hb dX8_pulseOfTime_219 (by decide) ?_
              refine lv_goto (tgt := 224) hx hb dX8_pulseOfTime_220 (by decide) ?_
              refine va_put (D := G) (ci := 9) (v := .int (1 : Int32)) (ty := .boolean) (C := RX8) (T := TX8) (N := 39) hx hb hts hiX8 tyX8 tyX8_ok nmX8 hown hK hP hD hS 12 hm rfl 22 (by decide) (hts (.fieldLink RX8 150 "VortexpinModel" "isDumped" "Z") (List.mem_of_getElem? (i := 1) rfl)) (fun _ h9 => h9) rfl (by decide +kernel) (rfl) (rfl) (Nat.le_of_ble_eq_true rfl) dX8_pulseOfTime_224 (fun H locs hP hD hS => ?_)
              have hP : va_P G vwCl (((((ws.set 12 (am, .inr (9, mF ad (upd z 21 (cCur (z 21))) (wi + cWir (z 21) (F 26)) (dm + (cLost (z 21) - cWir (z 21) (F 26)))))).set 27 (ad 27, .inl (cI, 12, .inl (cSpr (cCur (z 21)) (F 26) (F 27) 12)))).set 26 (ad 26, .inl (cI, 12, .inl (cCp (cSpr (cCur (z 21)) (F 26) (F 27) 12) (F 26) 12)))).set 12 (am, .inr (9, mF ad (upd (upd z 21 (cCur (z 21))) 23 ((z 23) + (1 : Int32))) (wi + cWir (z 21) (F 26)) (dm + (cLost (z 21) - cWir (z 21) (F 26)))))).set 12 (am, .inr (9, mF ad (upd (upd (upd z 21 (cCur (z 21))) 23 ((z 23) + (1 : Int32))) 22 (1 : Int32)) (wi + cWir (z 21) (F 26)) (dm + (cLost (z 21) - cWir (z 21) (F 26)))))) H := hP
              have hD : va_D A (((((ws.set 12 (am, .inr (9, mF ad (upd z 21 (cCur (z 21))) (wi + cWir (z 21) (F 26)) (dm + (cLost (z 21) - cWir (z 21) (F 26)))))).set 27 (ad 27, .inl (cI, 12, .inl (cSpr (cCur (z 21)) (F 26) (F 27) 12)))).set 26 (ad 26, .inl (cI, 12, .inl (cCp (cSpr (cCur (z 21)) (F 26) (F 27) 12) (F 26) 12)))).set 12 (am, .inr (9, mF ad (upd (upd z 21 (cCur (z 21))) 23 ((z 23) + (1 : Int32))) (wi + cWir (z 21) (F 26)) (dm + (cLost (z 21) - cWir (z 21) (F 26)))))).set 12 (am, .inr (9, mF ad (upd (upd (upd z 21 (cCur (z 21))) 23 ((z 23) + (1 : Int32))) 22 (1 : Int32)) (wi + cWir (z 21) (F 26)) (dm + (cLost (z 21) - cWir (z 21) (F 26)))))) := hD
              have hA26 := va_gs (k := 12) (e := (am, .inr (9, mF ad (upd (upd (upd z 21 (cCur (z 21))) 23 ((z 23) + (1 : Int32))) 22 (1 : Int32)) (wi + cWir (z 21) (F 26)) (dm + (cLost (z 21) - cWir (z 21) (F 26)))))) (by decide) hA26
              have hA27 := va_gs (k := 12) (e := (am, .inr (9, mF ad (upd (upd (upd z 21 (cCur (z 21))) 23 ((z 23) + (1 : Int32))) 22 (1 : Int32)) (wi + cWir (z 21) (F 26)) (dm + (cLost (z 21) - cWir (z 21) (F 26)))))) (by decide) hA27
              have hm := va_ge (e := (am, .inr (9, mF ad (upd (upd (upd z 21 (cCur (z 21))) 23 ((z 23) + (1 : Int32))) 22 (1 : Int32)) (wi + cWir (z 21) (F 26)) (dm + (cLost (z 21) - cWir (z 21) (F 26)))))) hm
              have ew : ((((ws.set 12 (am, .inr (9, mF ad (upd z 21 (cCur (z 21))) (wi + cWir (z 21) (F 26)) (dm + (cLost (z 21) - cWir (z 21) (F 26)))))).set 27 (ad 27, .inl (cI, 12, .inl (cSpr (cCur (z 21)) (F 26) (F 27) 12)))).set 26 (ad 26, .inl (cI, 12, .inl (cCp (cSpr (cCur (z 21)) (F 26) (F 27) 12) (F 26) 12)))).set 12 (am, .inr (9, mF ad (upd (upd z 21 (cCur (z 21))) 23 ((z 23) + (1 : Int32))) (wi + cWir (z 21) (F 26)) (dm + (cLost (z 21) - cWir (z 21) (F 26)))))).set 12 (am, .inr (9, mF ad (upd (upd (upd z 21 (cCur (z 21))) 23 ((z 23) + (1 : Int32))) 22 (1 : Int32)) (wi + cWir (z 21) (F 26)) (dm + (cLost (z 21) - cWir (z 21) (F 26))))) = ((ws.set 27 (ad 27, .inl (cI, 12, .inl (cSpr (if z 22 = 0 then z 21 else cCur (z 21)) (F 26) (F 27) 12)))).set 26 (ad 26, .inl (cI, 12, .inl (cCp (cSpr (if z 22 = 0 then z 21 else cCur (z 21)) (F 26) (F 27) 12) (F 26) 12)))).set 12 (am, .inr (9, mF ad (upd (upd (upd z 21 (if z 22 = 0 then z 21 else cCur (z 21))) 23 (cIr (if z 22 = 0 then z 21 else cCur (z 21)) (z 23) (cCp (cSpr (if z 22 = 0 then z 21 else cCur (z 21)) (F 26) (F 27) 12) (F 26) 12))) 22 (if z 22 = 0 then (if (cIr (if z 22 = 0 then z 21 else cCur (z 21)) (z 23) (cCp (cSpr (if z 22 = 0 then z 21 else cCur (z 21)) (F 26) (F 27) 12) (F 26) 12)) < 3 then 0 else 1) else 1)) (if z 22 = 0 then wi else wi + cWir (z 21) (F 26)) (if z 22 = 0 then dm else dm + (cLost (z 21) - cWir (z 21) (F 26))))) := by exact absurd c208 c4
              have hP : va_P G vwCl (((((ws.set 12 (am, .inr (9, mF ad (upd z 21 (cCur (z 21))) (wi + cWir (z 21) (F 26)) (dm + (cLost (z 21) - cWir (z 21) (F 26)))))).set 27 (ad 27, .inl (cI, 12, .inl (cSpr (cCur (z 21)) (F 26) (F 27) 12)))).set 26 (ad 26, .inl (cI, 12, .inl (cCp (cSpr (cCur (z 21)) (F 26) (F 27) 12) (F 26) 12)))).set 12 (am, .inr (9, mF ad (upd (upd z 21 (cCur (z 21))) 23 ((z 23) + (1 : Int32))) (wi + cWir (z 21) (F 26)) (dm + (cLost (z 21) - cWir (z 21) (F 26)))))).set 12 (am, .inr (9, mF ad (upd (upd (upd z 21 (cCur (z 21))) 23 ((z 23) + (1 : Int32))) 22 (1 : Int32)) (wi + cWir (z 21) (F 26)) (dm + (cLost (z 21) - cWir (z 21) (F 26)))))) H := hP
              have hD : va_D A (((((ws.set 12 (am, .inr (9, mF ad (upd z 21 (cCur (z 21))) (wi + cWir (z 21) (F 26)) (dm + (cLost (z 21) - cWir (z 21) (F 26)))))).set 27 (ad 27, .inl (cI, 12, .inl (cSpr (cCur (z 21)) (F 26) (F 27) 12)))).set 26 (ad 26, .inl (cI, 12, .inl (cCp (cSpr (cCur (z 21)) (F 26) (F 27) 12) (F 26) 12)))).set 12 (am, .inr (9, mF ad (upd (upd z 21 (cCur (z 21))) 23 ((z 23) + (1 : Int32))) (wi + cWir (z 21) (F 26)) (dm + (cLost (z 21) - cWir (z 21) (F 26)))))).set 12 (am, .inr (9, mF ad (upd (upd (upd z 21 (cCur (z 21))) 23 ((z 23) + (1 : Int32))) 22 (1 : Int32)) (wi + cWir (z 21) (F 26)) (dm + (cLost (z 21) - cWir (z 21) (F 26)))))) := hD
              rw [ew] at hP hD
              exact W.vret hx hb hr (fun t ht hW => ⟨⟨(), rfl, trivial, by show va_P G vwCl _ t.heap ∧ va_D A _; rw [ht]; exact ⟨hP, hD⟩⟩, hS.F ht⟩) hS.2.2 dX8_pulseOfTime_227
      · have hlti : i < 12 := Nat.lt_of_not_le (mt (nI_leI (by omega) (by omega)).mpr c157)
        refine lv_aload_n hx hb dX8_pulseOfTime_160 rfl (lv_at hl 0 rfl) ?_
        refine va_get (D := G) (ci := 9) (v := .ref (ad 26)) (C := RX8) (T := TX8) (N := 39) hx hb hts hiX8 hown hK hP 12 hm rfl 19 (by decide) (hts (.fieldLink RX8 49 "VortexpinModel" "part" "[I") (List.mem_of_getElem? (i := 2) rfl)) (fun _ h9 => h9) rfl dX8_pulseOfTime_161 ?_
        refine lv_iload_n hx hb dX8_pulseOfTime_164 rfl (lv_at hl 1 rfl) ?_
        refine lv_aload_n hx hb dX8_pulseOfTime_165 rfl (lv_at hl 0 rfl) ?_
        refine va_get (D := G) (ci := 9) (v := .ref (ad 27)) (C := RX8) (T := TX8) (N := 39) hx hb hts hiX8 hown hK hP 12 hm rfl 20 (by decide) (hts (.fieldLink RX8 52 "VortexpinModel" "partThen" "[I") (List.mem_of_getElem? (i := 4) rfl)) (fun _ h9 => h9) rfl dX8_pulseOfTime_166 ?_
        refine lv_iload_n hx hb dX8_pulseOfTime_169 rfl (lv_at hl 1 rfl) ?_
        refine va_iald hx hb hK hP 27 0 hA27 htI (by first | exact vp_in_nI (by omega) (by omega) | assumption) dX8_pulseOfTime_170 ?_
        refine rd_i (j := i) (nI_clamp (by omega)) ?_
        refine va_iast hx hb hK hP hD hS 26 0 hA26 htI (by first | exact vp_in_nI (by omega) (by omega) | assumption) dX8_pulseOfTime_171 (fun H locs hP hD hS => ?_)
        have hm := va_gs (k := 26) (e := (ad 26, .inl (cI, 12, .inl (upd (cCp (cSpr (cCur (z 21)) (F 26) (F 27) 12) (F 26) i) (nI i).toNatClampNeg ((cSpr (cCur (z 21)) (F 26) (F 27) 12) i))))) (by decide) hm
        have hA27 := va_gs (k := 26) (e := (ad 26, .inl (cI, 12, .inl (upd (cCp (cSpr (cCur (z 21)) (F 26) (F 27) 12) (F 26) i) (nI i).toNatClampNeg ((cSpr (cCur (z 21)) (F 26) (F 27) 12) i))))) (by decide) hA27
        have hA26 := va_ge (e := (ad 26, .inl (cI, 12, .inl (upd (cCp (cSpr (cCur (z 21)) (F 26) (F 27) 12) (F 26) i) (nI i).toNatClampNeg ((cSpr (cCur (z 21)) (F 26) (F 27) 12) i))))) hA26
        refine lv_iinc (v := nI (i + 1)) (lv' := [(1, .int (nI (i + 1))), (0, .ref am)]) hx hb dX8_pulseOfTime_172 hl (k := 1) rfl (nI_1 i) (by decide) rfl (fun ls hl => ?_)
        refine lv_goto (tgt := 154) hx hb dX8_pulseOfTime_175 (by decide) ?_
        have ew : (((ws.set 12 (am, .inr (9, mF ad (upd z 21 (cCur (z 21))) (wi + cWir (z 21) (F 26)) (dm + (cLost (z 21) - cWir (z 21) (F 26)))))).set 27 (ad 27, .inl (cI, 12, .inl (cSpr (cCur (z 21)) (F 26) (F 27) 12)))).set 26 (ad 26, .inl (cI, 12, .inl (cCp (cSpr (cCur (z 21)) (F 26) (F 27) 12) (F 26) i)))).set 26 (ad 26, .inl (cI, 12, .inl (upd (cCp (cSpr (cCur (z 21)) (F 26) (F 27) 12) (F 26) i) (nI i).toNatClampNeg ((cSpr (cCur (z 21)) (F 26) (F 27) 12) i)))) = ((ws.set 12 (am, .inr (9, mF ad (upd z 21 (cCur (z 21))) (wi + cWir (z 21) (F 26)) (dm + (cLost (z 21) - cWir (z 21) (F 26)))))).set 27 (ad 27, .inl (cI, 12, .inl (cSpr (cCur (z 21)) (F 26) (F 27) 12)))).set 26 (ad 26, .inl (cI, 12, .inl (cCp (cSpr (cCur (z 21)) (F 26) (F 27) 12) (F 26) (i + 1)))) := by rw [nI_clamp (show i < 2 ^ 31 by omega), List.set_set, cCp_s]
        have hP : va_P G vwCl ((((ws.set 12 (am, .inr (9, mF ad (upd z 21 (cCur (z 21))) (wi + cWir (z 21) (F 26)) (dm + (cLost (z 21) - cWir (z 21) (F 26)))))).set 27 (ad 27, .inl (cI, 12, .inl (cSpr (cCur (z 21)) (F 26) (F 27) 12)))).set 26 (ad 26, .inl (cI, 12, .inl (cCp (cSpr (cCur (z 21)) (F 26) (F 27) 12) (F 26) i)))).set 26 (ad 26, .inl (cI, 12, .inl (upd (cCp (cSpr (cCur (z 21)) (F 26) (F 27) 12) (F 26) i) (nI i).toNatClampNeg ((cSpr (cCur (z 21)) (F 26) (F 27) 12) i))))) H := hP
        have hD : va_D A ((((ws.set 12 (am, .inr (9, mF ad (upd z 21 (cCur (z 21))) (wi + cWir (z 21) (F 26)) (dm + (cLost (z 21) - cWir (z 21) (F 26)))))).set 27 (ad 27, .inl (cI, 12, .inl (cSpr (cCur (z 21)) (F 26) (F 27) 12)))).set 26 (ad 26, .inl (cI, 12, .inl (cCp (cSpr (cCur (z 21)) (F 26) (F 27) 12) (F 26) i)))).set 26 (ad 26, .inl (cI, 12, .inl (upd (cCp (cSpr (cCur (z 21)) (F 26) (F 27) 12) (F 26) i) (nI i).toNatClampNeg ((cSpr (cCur (z 21)) (F 26) (F 27) 12) i))))) := hD
        rw [ew] at hP hD
        exact ihi H _ ls hlti (trivial) hP hD hS (lv_sub hl [1, 0] rfl)
    · have hlti : i < 12 := Nat.lt_of_not_le (mt (nI_leI (by omega) (by omega)).mpr c16)
      refine lv_aload_n hx hb dX8_pulseOfTime_19 rfl (lv_at hl 0 rfl) ?_
      refine va_get (D := G) (ci := 9) (v := .ref (ad 26)) (C := RX8) (T := TX8) (N := 39) hx hb hts hiX8 hown hK hP 12 hm rfl 19 (by decide) (hts (.fieldLink RX8 49 "VortexpinModel" "part" "[I") (List.mem_of_getElem? (i := 2) rfl)) (fun _ h9 => h9) rfl dX8_pulseOfTime_20 ?_
      refine lv_iload_n hx hb dX8_pulseOfTime_23 rfl (lv_at hl 1 rfl) ?_
      refine va_iald hx hb hK hP 26 0 hA26 htI (by first | exact vp_in_nI (by omega) (by omega) | assumption) dX8_pulseOfTime_24 ?_
      refine rd_i (j := i) (nI_clamp (by omega)) ?_
      refine lv_aload_n hx hb dX8_pulseOfTime_25 rfl (lv_at hl 0 rfl) ?_
      refine lv_iload_n hx hb dX8_pulseOfTime_26 rfl (lv_at hl 1 rfl) ?_
      refine vp_callSi (va_Run.run (va_runV (As := [.int (nI i)]) (rest := [.int ((F 26) i)]) ⟨hx, hb, hml, hown, hts⟩ (metX8_isNormal l G tys htI _ (F := updF F 27 (cSpr (cCur (z 21)) (F 26) (F 27) i)) hm hA26 (nI i) (uK_of (n := 12) (by omega) (by decide))) (cwV 1 hts gX8_pulseOfTime_X8_isNormal rfl rfl rfl (by decide +kernel) ⟨Nat.le_of_ble_eq_true rfl, Nat.le_of_ble_eq_true rfl⟩) ⟨pcR_b, va_recv hK hP (ci := 9) (q0 := 12) rfl hm, pcR_u hP hK⟩ rfl rfl hl.1 rfl (lv_room (Nat.le_of_ble_eq_true rfl)) dX8_pulseOfTime_27 ⟨Nat.le_of_ble_eq_true rfl, Nat.le_of_ble_eq_true rfl⟩)) (fun r27 h27 => ?_)
      have h27 : r27 = cNorm (cCur (z 21)) (F 26 i) := h27.trans (by rw [nI_clamp (show i < 2 ^ 31 by omega)]; rfl)
      refine lv_if_eq (tgt := 49) hx hb dX8_pulseOfTime_30 (by decide) (fun c30 => ?_) (fun c30 => ?_)
      · refine lv_iconst (v := 0) hx hb dX8_pulseOfTime_49 (by decide) ?_
        refine lv_iadd hx hb dX8_pulseOfTime_50 ?_
        refine lv_istore_n (lv' := [(2, .int (((F 26) i) + (0 : Int32))), (0, .ref am), (1, .int (nI i))]) hx hb dX8_pulseOfTime_51 rfl hl (by decide) rfl (fun ls hl => ?_)
        refine lv_iload_n hx hb dX8_pulseOfTime_52 rfl (lv_at hl 0 rfl) ?_
        refine lv_iload_n hx hb dX8_pulseOfTime_53 rfl (lv_at hl 2 rfl) ?_
        refine lv_if_le (tgt := 78) hx hb dX8_pulseOfTime_54 (by decide) (fun c54 => ?_) (fun c54 => ?_)
        · refine lv_iconst (v := 0) hx hb dX8_pulseOfTime_78 (by decide) ?_
          refine lv_iadd hx hb dX8_pulseOfTime_79 ?_
          refine lv_istore_n (lv' := [(2, .int ((((F 26) i) + (0 : Int32)) + (0 : Int32))), (0, .ref am), (1, .int (nI i))]) hx hb dX8_pulseOfTime_80 rfl hl (by decide) rfl (fun ls hl => ?_)
          refine lv_iload_n hx hb dX8_pulseOfTime_81 rfl (lv_at hl 0 rfl) ?_
          refine lv_iload_n hx hb dX8_pulseOfTime_82 rfl (lv_at hl 2 rfl) ?_
          refine lv_bipush (v := 11) hx hb dX8_pulseOfTime_83 (by decide) ?_
          refine lv_icmp_ge (tgt := 109) hx hb dX8_pulseOfTime_85 (by decide) (fun c85 => ?_) (fun c85 => ?_)
          · refine lv_iconst (v := 0) hx hb dX8_pulseOfTime_109 (by decide) ?_
            refine lv_iadd hx hb dX8_pulseOfTime_110 ?_
            refine lv_istore_n (lv' := [(2, .int (((((F 26) i) + (0 : Int32)) + (0 : Int32)) + (0 : Int32))), (0, .ref am), (1, .int (nI i))]) hx hb dX8_pulseOfTime_111 rfl hl (by decide) rfl (fun ls hl => ?_)
            refine lv_iload_n hx hb dX8_pulseOfTime_112 rfl (lv_at hl 0 rfl) ?_
            refine lv_aload_n hx hb dX8_pulseOfTime_113 rfl (lv_at hl 1 rfl) ?_
            refine va_get (D := G) (ci := 9) (v := .ref (ad 26)) (C := RX8) (T := TX8) (N := 39) hx hb hts hiX8 hown hK hP 12 hm rfl 19 (by decide) (hts (.fieldLink RX8 49 "VortexpinModel" "part" "[I") (List.mem_of_getElem? (i := 2) rfl)) (fun _ h9 => h9) rfl dX8_pulseOfTime_114 ?_
            refine lv_iload_n hx hb dX8_pulseOfTime_117 rfl (lv_at hl 2 rfl) ?_
            refine va_iald hx hb hK hP 26 0 hA26 htI (by first | exact vp_in_nI (by omega) (by omega) | assumption) dX8_pulseOfTime_118 ?_
            refine rd_i (j := i) (nI_clamp (by omega)) ?_
            refine lv_iconst (v := 4) hx hb dX8_pulseOfTime_119 (by decide) ?_
            refine lv_isub hx hb dX8_pulseOfTime_120 ?_
            refine lv_bipush (v := 16) hx hb dX8_pulseOfTime_121 (by decide) ?_
            refine lv_idiv hx hb dX8_pulseOfTime_123 (by decide) ?_
            refine lv_isub hx hb dX8_pulseOfTime_124 ?_
            refine lv_istore_n (lv' := [(2, .int ((((((F 26) i) + (0 : Int32)) + (0 : Int32)) + (0 : Int32)) - ((((F 26) i) - (4 : Int32)) / (16 : Int32)))), (0, .ref am), (1, .int (nI i))]) hx hb dX8_pulseOfTime_125 rfl hl (by decide) rfl (fun ls hl => ?_)
            refine lv_aload_n hx hb dX8_pulseOfTime_126 rfl (lv_at hl 1 rfl) ?_
            refine va_get (D := G) (ci := 9) (v := .ref (ad 27)) (C := RX8) (T := TX8) (N := 39) hx hb hts hiX8 hown hK hP 12 hm rfl 20 (by decide) (hts (.fieldLink RX8 52 "VortexpinModel" "partThen" "[I") (List.mem_of_getElem? (i := 4) rfl)) (fun _ h9 => h9) rfl dX8_pulseOfTime_127 ?_
            refine lv_iload_n hx hb dX8_pulseOfTime_130 rfl (lv_at hl 2 rfl) ?_
            refine lv_iload_n hx hb dX8_pulseOfTime_131 rfl (lv_at hl 0 rfl) ?_
            refine lv_sipush (v := 1000) hx hb dX8_pulseOfTime_132 (by decide) ?_
            refine lv_icmp_le (tgt := 144) hx hb dX8_pulseOfTime_135 (by decide) (fun c135 => ?_) (fun c135 => ?_)
            · refine lv_iload_n hx hb dX8_pulseOfTime_144 rfl (lv_at hl 0 rfl) ?_
              refine va_iast hx hb hK hP hD hS 27 0 hA27 htI (by first | exact vp_in_nI (by omega) (by omega) | assumption) dX8_pulseOfTime_145 (fun H locs hP hD hS => ?_)
              have hm := va_gs (k := 27) (e := (ad 27, .inl (cI, 12, .inl (upd (cSpr (cCur (z 21)) (F 26) (F 27) i) (nI i).toNatClampNeg ((((((F 26) i) + (0 : Int32)) + (0 : Int32)) + (0 : Int32)) - ((((F 26) i) - (4 : Int32)) / (16 : Int32))))))) (by decide) hm
              have hA26 := va_gs (k := 27) (e := (ad 27, .inl (cI, 12, .inl (upd (cSpr (cCur (z 21)) (F 26) (F 27) i) (nI i).toNatClampNeg ((((((F 26) i) + (0 : Int32)) + (0 : Int32)) + (0 : Int32)) - ((((F 26) i) - (4 : Int32)) / (16 : Int32))))))) (by decide) hA26
              have hA27 := va_ge (e := (ad 27, .inl (cI, 12, .inl (upd (cSpr (cCur (z 21)) (F 26) (F 27) i) (nI i).toNatClampNeg ((((((F 26) i) + (0 : Int32)) + (0 : Int32)) + (0 : Int32)) - ((((F 26) i) - (4 : Int32)) / (16 : Int32))))))) hA27
              refine lv_iinc (v := nI (i + 1)) (lv' := [(1, .int (nI (i + 1))), (2, .int ((((((F 26) i) + (0 : Int32)) + (0 : Int32)) + (0 : Int32)) - ((((F 26) i) - (4 : Int32)) / (16 : Int32)))), (0, .ref am)]) hx hb dX8_pulseOfTime_146 hl (k := 2) rfl (nI_1 i) (by decide) rfl (fun ls hl => ?_)
              refine lv_goto (tgt := 13) hx hb dX8_pulseOfTime_149 (by decide) ?_
              have ew : ((ws.set 12 (am, .inr (9, mF ad (upd z 21 (cCur (z 21))) (wi + cWir (z 21) (F 26)) (dm + (cLost (z 21) - cWir (z 21) (F 26)))))).set 27 (ad 27, .inl (cI, 12, .inl (cSpr (cCur (z 21)) (F 26) (F 27) i)))).set 27 (ad 27, .inl (cI, 12, .inl (upd (cSpr (cCur (z 21)) (F 26) (F 27) i) (nI i).toNatClampNeg ((((((F 26) i) + (0 : Int32)) + (0 : Int32)) + (0 : Int32)) - ((((F 26) i) - (4 : Int32)) / (16 : Int32)))))) = (ws.set 12 (am, .inr (9, mF ad (upd z 21 (cCur (z 21))) (wi + cWir (z 21) (F 26)) (dm + (cLost (z 21) - cWir (z 21) (F 26)))))).set 27 (ad 27, .inl (cI, 12, .inl (cSpr (cCur (z 21)) (F 26) (F 27) (i + 1)))) := by subst h27; have e9 := mV_eq (cCur (z 21)) (F 26) hlti; unfold mV4 mV3 mV2 mV1 at e9; simp only [(eq_true c30), c54, c85, ↓reduceIte] at e9; rw [nI_clamp (show i < 2 ^ 31 by omega), List.set_set, ← cSpr_s, ← e9, jmin_a c135]
              have hP : va_P G vwCl (((ws.set 12 (am, .inr (9, mF ad (upd z 21 (cCur (z 21))) (wi + cWir (z 21) (F 26)) (dm + (cLost (z 21) - cWir (z 21) (F 26)))))).set 27 (ad 27, .inl (cI, 12, .inl (cSpr (cCur (z 21)) (F 26) (F 27) i)))).set 27 (ad 27, .inl (cI, 12, .inl (upd (cSpr (cCur (z 21)) (F 26) (F 27) i) (nI i).toNatClampNeg ((((((F 26) i) + (0 : Int32)) + (0 : Int32)) + (0 : Int32)) - ((((F 26) i) - (4 : Int32)) / (16 : Int32))))))) H := hP
              have hD : va_D A (((ws.set 12 (am, .inr (9, mF ad (upd z 21 (cCur (z 21))) (wi + cWir (z 21) (F 26)) (dm + (cLost (z 21) - cWir (z 21) (F 26)))))).set 27 (ad 27, .inl (cI, 12, .inl (cSpr (cCur (z 21)) (F 26) (F 27) i)))).set 27 (ad 27, .inl (cI, 12, .inl (upd (cSpr (cCur (z 21)) (F 26) (F 27) i) (nI i).toNatClampNeg ((((((F 26) i) + (0 : Int32)) + (0 : Int32)) + (0 : Int32)) - ((((F 26) i) - (4 : Int32)) / (16 : Int32))))))) := hD
              rw [ew] at hP hD
              exact ihi H _ ls hlti (trivial) hP hD hS (lv_sub hl [2, 0] rfl)
            · refine lv_sipush (v := 1000) hx hb dX8_pulseOfTime_138 (by decide) ?_
              refine lv_goto (tgt := 145) hx hb dX8_pulseOfTime_141 (by decide) ?_
              refine va_iast hx hb hK hP hD hS 27 0 hA27 htI (by first | exact vp_in_nI (by omega) (by omega) | assumption) dX8_pulseOfTime_145 (fun H locs hP hD hS => ?_)
              have hm := va_gs (k := 27) (e := (ad 27, .inl (cI, 12, .inl (upd (cSpr (cCur (z 21)) (F 26) (F 27) i) (nI i).toNatClampNeg (1000 : Int32))))) (by decide) hm
              have hA26 := va_gs (k := 27) (e := (ad 27, .inl (cI, 12, .inl (upd (cSpr (cCur (z 21)) (F 26) (F 27) i) (nI i).toNatClampNeg (1000 : Int32))))) (by decide) hA26
              have hA27 := va_ge (e := (ad 27, .inl (cI, 12, .inl (upd (cSpr (cCur (z 21)) (F 26) (F 27) i) (nI i).toNatClampNeg (1000 : Int32))))) hA27
              refine lv_iinc (v := nI (i + 1)) (lv' := [(1, .int (nI (i + 1))), (2, .int ((((((F 26) i) + (0 : Int32)) + (0 : Int32)) + (0 : Int32)) - ((((F 26) i) - (4 : Int32)) / (16 : Int32)))), (0, .ref am)]) hx hb dX8_pulseOfTime_146 hl (k := 2) rfl (nI_1 i) (by decide) rfl (fun ls hl => ?_)
              refine lv_goto (tgt := 13) hx hb dX8_pulseOfTime_149 (by decide) ?_
              have ew : ((ws.set 12 (am, .inr (9, mF ad (upd z 21 (cCur (z 21))) (wi + cWir (z 21) (F 26)) (dm + (cLost (z 21) - cWir (z 21) (F 26)))))).set 27 (ad 27, .inl (cI, 12, .inl (cSpr (cCur (z 21)) (F 26) (F 27) i)))).set 27 (ad 27, .inl (cI, 12, .inl (upd (cSpr (cCur (z 21)) (F 26) (F 27) i) (nI i).toNatClampNeg (1000 : Int32)))) = (ws.set 12 (am, .inr (9, mF ad (upd z 21 (cCur (z 21))) (wi + cWir (z 21) (F 26)) (dm + (cLost (z 21) - cWir (z 21) (F 26)))))).set 27 (ad 27, .inl (cI, 12, .inl (cSpr (cCur (z 21)) (F 26) (F 27) (i + 1)))) := by subst h27; have e9 := mV_eq (cCur (z 21)) (F 26) hlti; unfold mV4 mV3 mV2 mV1 at e9; simp only [(eq_true c30), c54, c85, ↓reduceIte] at e9; rw [nI_clamp (show i < 2 ^ 31 by omega), List.set_set, ← cSpr_s, ← e9, jmin_b c135]
              have hP : va_P G vwCl (((ws.set 12 (am, .inr (9, mF ad (upd z 21 (cCur (z 21))) (wi + cWir (z 21) (F 26)) (dm + (cLost (z 21) - cWir (z 21) (F 26)))))).set 27 (ad 27, .inl (cI, 12, .inl (cSpr (cCur (z 21)) (F 26) (F 27) i)))).set 27 (ad 27, .inl (cI, 12, .inl (upd (cSpr (cCur (z 21)) (F 26) (F 27) i) (nI i).toNatClampNeg (1000 : Int32))))) H := hP
              have hD : va_D A (((ws.set 12 (am, .inr (9, mF ad (upd z 21 (cCur (z 21))) (wi + cWir (z 21) (F 26)) (dm + (cLost (z 21) - cWir (z 21) (F 26)))))).set 27 (ad 27, .inl (cI, 12, .inl (cSpr (cCur (z 21)) (F 26) (F 27) i)))).set 27 (ad 27, .inl (cI, 12, .inl (upd (cSpr (cCur (z 21)) (F 26) (F 27) i) (nI i).toNatClampNeg (1000 : Int32))))) := hD
              rw [ew] at hP hD
              exact ihi H _ ls hlti (trivial) hP hD hS (lv_sub hl [2, 0] rfl)
          · refine lv_aload_n hx hb dX8_pulseOfTime_88 rfl (lv_at hl 1 rfl) ?_
            refine va_get (D := G) (ci := 9) (v := .ref (ad 26)) (C := RX8) (T := TX8) (N := 39) hx hb hts hiX8 hown hK hP 12 hm rfl 19 (by decide) (hts (.fieldLink RX8 49 "VortexpinModel" "part" "[I") (List.mem_of_getElem? (i := 2) rfl)) (fun _ h9 => h9) rfl dX8_pulseOfTime_89 ?_
            refine lv_iload_n hx hb dX8_pulseOfTime_92 rfl (lv_at hl 2 rfl) ?_
            refine lv_iconst (v := 1) hx hb dX8_pulseOfTime_93 (by decide) ?_
            refine lv_iadd hx hb dX8_pulseOfTime_94 ?_
            refine va_iald hx hb hK hP 26 0 hA26 htI (by rw [nI_1]; exact vp_in_nI (by have := mt (nI_leI (a := 11) (b := i) (by omega) (by omega)).mpr c85; omega) (by omega)) dX8_pulseOfTime_95 ?_
            refine rd_i (j := i + 1) (by rw [nI_1]; exact nI_clamp (by omega)) ?_
            refine lv_aload_n hx hb dX8_pulseOfTime_96 rfl (lv_at hl 1 rfl) ?_
            refine va_get (D := G) (ci := 9) (v := .ref (ad 26)) (C := RX8) (T := TX8) (N := 39) hx hb hts hiX8 hown hK hP 12 hm rfl 19 (by decide) (hts (.fieldLink RX8 49 "VortexpinModel" "part" "[I") (List.mem_of_getElem? (i := 2) rfl)) (fun _ h9 => h9) rfl dX8_pulseOfTime_97 ?_
            refine lv_iload_n hx hb dX8_pulseOfTime_100 rfl (lv_at hl 2 rfl) ?_
            refine va_iald hx hb hK hP 26 0 hA26 htI (by first | exact vp_in_nI (by omega) (by omega) | assumption) dX8_pulseOfTime_101 ?_
            refine rd_i (j := i) (nI_clamp (by omega)) ?_
            refine lv_isub hx hb dX8_pulseOfTime_102 ?_
            refine lv_bipush (v := 8) hx hb dX8_pulseOfTime_103 (by decide) ?_
            refine lv_idiv hx hb dX8_pulseOfTime_105 (by decide) ?_
            refine lv_goto (tgt := 110) hx hb dX8_pulseOfTime_106 (by decide) ?_
            refine lv_iadd hx hb dX8_pulseOfTime_110 ?_
            refine lv_istore_n (lv' := [(2, .int (((((F 26) i) + (0 : Int32)) + (0 : Int32)) + ((((F 26) (i + 1)) - ((F 26) i)) / (8 : Int32)))), (0, .ref am), (1, .int (nI i))]) hx hb dX8_pulseOfTime_111 rfl hl (by decide) rfl (fun ls hl => ?_)
            refine lv_iload_n hx hb dX8_pulseOfTime_112 rfl (lv_at hl 0 rfl) ?_
            refine lv_aload_n hx hb dX8_pulseOfTime_113 rfl (lv_at hl 1 rfl) ?_
            refine va_get (D := G) (ci := 9) (v := .ref (ad 26)) (C := RX8) (T := TX8) (N := 39) hx hb hts hiX8 hown hK hP 12 hm rfl 19 (by decide) (hts (.fieldLink RX8 49 "VortexpinModel" "part" "[I") (List.mem_of_getElem? (i := 2) rfl)) (fun _ h9 => h9) rfl dX8_pulseOfTime_114 ?_
            refine lv_iload_n hx hb dX8_pulseOfTime_117 rfl (lv_at hl 2 rfl) ?_
            refine va_iald hx hb hK hP 26 0 hA26 htI (by first | exact vp_in_nI (by omega) (by omega) | assumption) dX8_pulseOfTime_118 ?_
            refine rd_i (j := i) (nI_clamp (by omega)) ?_
            refine lv_iconst (v := 4) hx hb dX8_pulseOfTime_119 (by decide) ?_
            refine lv_isub hx hb dX8_pulseOfTime_120 ?_
            refine lv_bipush (v := 16) hx hb dX8_pulseOfTime_121 (by decide) ?_
            refine lv_idiv hx hb dX8_pulseOfTime_123 (by decide) ?_
            refine lv_isub hx hb dX8_pulseOfTime_124 ?_
            refine lv_istore_n (lv' := [(2, .int ((((((F 26) i) + (0 : Int32)) + (0 : Int32)) + ((((F 26) (i + 1)) - ((F 26) i)) / (8 : Int32))) - ((((F 26) i) - (4 : Int32)) / (16 : Int32)))), (0, .ref am), (1, .int (nI i))]) hx hb dX8_pulseOfTime_125 rfl hl (by decide) rfl (fun ls hl => ?_)
            refine lv_aload_n hx hb dX8_pulseOfTime_126 rfl (lv_at hl 1 rfl) ?_
            refine va_get (D := G) (ci := 9) (v := .ref (ad 27)) (C := RX8) (T := TX8) (N := 39) hx hb hts hiX8 hown hK hP 12 hm rfl 20 (by decide) (hts (.fieldLink RX8 52 "VortexpinModel" "partThen" "[I") (List.mem_of_getElem? (i := 4) rfl)) (fun _ h9 => h9) rfl dX8_pulseOfTime_127 ?_
            refine lv_iload_n hx hb dX8_pulseOfTime_130 rfl (lv_at hl 2 rfl) ?_
            refine lv_iload_n hx hb dX8_pulseOfTime_131 rfl (lv_at hl 0 rfl) ?_
            refine lv_sipush (v := 1000) hx hb dX8_pulseOfTime_132 (by decide) ?_
            refine lv_icmp_le (tgt := 144) hx hb dX8_pulseOfTime_135 (by decide) (fun c135 => ?_) (fun c135 => ?_)
            · refine lv_iload_n hx hb dX8_pulseOfTime_144 rfl (lv_at hl 0 rfl) ?_
              refine va_iast hx hb hK hP hD hS 27 0 hA27 htI (by first | exact vp_in_nI (by omega) (by omega) | assumption) dX8_pulseOfTime_145 (fun H locs hP hD hS => ?_)
              have hm := va_gs (k := 27) (e := (ad 27, .inl (cI, 12, .inl (upd (cSpr (cCur (z 21)) (F 26) (F 27) i) (nI i).toNatClampNeg ((((((F 26) i) + (0 : Int32)) + (0 : Int32)) + ((((F 26) (i + 1)) - ((F 26) i)) / (8 : Int32))) - ((((F 26) i) - (4 : Int32)) / (16 : Int32))))))) (by decide) hm
              have hA26 := va_gs (k := 27) (e := (ad 27, .inl (cI, 12, .inl (upd (cSpr (cCur (z 21)) (F 26) (F 27) i) (nI i).toNatClampNeg ((((((F 26) i) + (0 : Int32)) + (0 : Int32)) + ((((F 26) (i + 1)) - ((F 26) i)) / (8 : Int32))) - ((((F 26) i) - (4 : Int32)) / (16 : Int32))))))) (by decide) hA26
              have hA27 := va_ge (e := (ad 27, .inl (cI, 12, .inl (upd (cSpr (cCur (z 21)) (F 26) (F 27) i) (nI i).toNatClampNeg ((((((F 26) i) + (0 : Int32)) + (0 : Int32)) + ((((F 26) (i + 1)) - ((F 26) i)) / (8 : Int32))) - ((((F 26) i) - (4 : Int32)) / (16 : Int32))))))) hA27
              refine lv_iinc (v := nI (i + 1)) (lv' := [(1, .int (nI (i + 1))), (2, .int ((((((F 26) i) + (0 : Int32)) + (0 : Int32)) + ((((F 26) (i + 1)) - ((F 26) i)) / (8 : Int32))) - ((((F 26) i) - (4 : Int32)) / (16 : Int32)))), (0, .ref am)]) hx hb dX8_pulseOfTime_146 hl (k := 2) rfl (nI_1 i) (by decide) rfl (fun ls hl => ?_)
              refine lv_goto (tgt := 13) hx hb dX8_pulseOfTime_149 (by decide) ?_
              have ew : ((ws.set 12 (am, .inr (9, mF ad (upd z 21 (cCur (z 21))) (wi + cWir (z 21) (F 26)) (dm + (cLost (z 21) - cWir (z 21) (F 26)))))).set 27 (ad 27, .inl (cI, 12, .inl (cSpr (cCur (z 21)) (F 26) (F 27) i)))).set 27 (ad 27, .inl (cI, 12, .inl (upd (cSpr (cCur (z 21)) (F 26) (F 27) i) (nI i).toNatClampNeg ((((((F 26) i) + (0 : Int32)) + (0 : Int32)) + ((((F 26) (i + 1)) - ((F 26) i)) / (8 : Int32))) - ((((F 26) i) - (4 : Int32)) / (16 : Int32)))))) = (ws.set 12 (am, .inr (9, mF ad (upd z 21 (cCur (z 21))) (wi + cWir (z 21) (F 26)) (dm + (cLost (z 21) - cWir (z 21) (F 26)))))).set 27 (ad 27, .inl (cI, 12, .inl (cSpr (cCur (z 21)) (F 26) (F 27) (i + 1)))) := by subst h27; have e9 := mV_eq (cCur (z 21)) (F 26) hlti; unfold mV4 mV3 mV2 mV1 at e9; simp only [(eq_true c30), c54, c85, ↓reduceIte] at e9; rw [nI_clamp (show i < 2 ^ 31 by omega), List.set_set, ← cSpr_s, ← e9, jmin_a c135]
              have hP : va_P G vwCl (((ws.set 12 (am, .inr (9, mF ad (upd z 21 (cCur (z 21))) (wi + cWir (z 21) (F 26)) (dm + (cLost (z 21) - cWir (z 21) (F 26)))))).set 27 (ad 27, .inl (cI, 12, .inl (cSpr (cCur (z 21)) (F 26) (F 27) i)))).set 27 (ad 27, .inl (cI, 12, .inl (upd (cSpr (cCur (z 21)) (F 26) (F 27) i) (nI i).toNatClampNeg ((((((F 26) i) + (0 : Int32)) + (0 : Int32)) + ((((F 26) (i + 1)) - ((F 26) i)) / (8 : Int32))) - ((((F 26) i) - (4 : Int32)) / (16 : Int32))))))) H := hP
              have hD : va_D A (((ws.set 12 (am, .inr (9, mF ad (upd z 21 (cCur (z 21))) (wi + cWir (z 21) (F 26)) (dm + (cLost (z 21) - cWir (z 21) (F 26)))))).set 27 (ad 27, .inl (cI, 12, .inl (cSpr (cCur (z 21)) (F 26) (F 27) i)))).set 27 (ad 27, .inl (cI, 12, .inl (upd (cSpr (cCur (z 21)) (F 26) (F 27) i) (nI i).toNatClampNeg ((((((F 26) i) + (0 : Int32)) + (0 : Int32)) + ((((F 26) (i + 1)) - ((F 26) i)) / (8 : Int32))) - ((((F 26) i) - (4 : Int32)) / (16 : Int32))))))) := hD
              rw [ew] at hP hD
              exact ihi H _ ls hlti (trivial) hP hD hS (lv_sub hl [2, 0] rfl)
            · refine lv_sipush (v := 1000) hx hb dX8_pulseOfTime_138 (by decide) ?_
              refine lv_goto (tgt := 145) hx hb dX8_pulseOfTime_141 (by decide) ?_
              refine va_iast hx hb hK hP hD hS 27 0 hA27 htI (by first | exact vp_in_nI (by omega) (by omega) | assumption) dX8_pulseOfTime_145 (fun H locs hP hD hS => ?_)
              have hm := va_gs (k := 27) (e := (ad 27, .inl (cI, 12, .inl (upd (cSpr (cCur (z 21)) (F 26) (F 27) i) (nI i).toNatClampNeg (1000 : Int32))))) (by decide) hm
              have hA26 := va_gs (k := 27) (e := (ad 27, .inl (cI, 12, .inl (upd (cSpr (cCur (z 21)) (F 26) (F 27) i) (nI i).toNatClampNeg (1000 : Int32))))) (by decide) hA26
              have hA27 := va_ge (e := (ad 27, .inl (cI, 12, .inl (upd (cSpr (cCur (z 21)) (F 26) (F 27) i) (nI i).toNatClampNeg (1000 : Int32))))) hA27
              refine lv_iinc (v := nI (i + 1)) (lv' := [(1, .int (nI (i + 1))), (2, .int ((((((F 26) i) + (0 : Int32)) + (0 : Int32)) + ((((F 26) (i + 1)) - ((F 26) i)) / (8 : Int32))) - ((((F 26) i) - (4 : Int32)) / (16 : Int32)))), (0, .ref am)]) hx hb dX8_pulseOfTime_146 hl (k := 2) rfl (nI_1 i) (by decide) rfl (fun ls hl => ?_)
              refine lv_goto (tgt := 13) hx hb dX8_pulseOfTime_149 (by decide) ?_
              have ew : ((ws.set 12 (am, .inr (9, mF ad (upd z 21 (cCur (z 21))) (wi + cWir (z 21) (F 26)) (dm + (cLost (z 21) - cWir (z 21) (F 26)))))).set 27 (ad 27, .inl (cI, 12, .inl (cSpr (cCur (z 21)) (F 26) (F 27) i)))).set 27 (ad 27, .inl (cI, 12, .inl (upd (cSpr (cCur (z 21)) (F 26) (F 27) i) (nI i).toNatClampNeg (1000 : Int32)))) = (ws.set 12 (am, .inr (9, mF ad (upd z 21 (cCur (z 21))) (wi + cWir (z 21) (F 26)) (dm + (cLost (z 21) - cWir (z 21) (F 26)))))).set 27 (ad 27, .inl (cI, 12, .inl (cSpr (cCur (z 21)) (F 26) (F 27) (i + 1)))) := by subst h27; have e9 := mV_eq (cCur (z 21)) (F 26) hlti; unfold mV4 mV3 mV2 mV1 at e9; simp only [(eq_true c30), c54, c85, ↓reduceIte] at e9; rw [nI_clamp (show i < 2 ^ 31 by omega), List.set_set, ← cSpr_s, ← e9, jmin_b c135]
              have hP : va_P G vwCl (((ws.set 12 (am, .inr (9, mF ad (upd z 21 (cCur (z 21))) (wi + cWir (z 21) (F 26)) (dm + (cLost (z 21) - cWir (z 21) (F 26)))))).set 27 (ad 27, .inl (cI, 12, .inl (cSpr (cCur (z 21)) (F 26) (F 27) i)))).set 27 (ad 27, .inl (cI, 12, .inl (upd (cSpr (cCur (z 21)) (F 26) (F 27) i) (nI i).toNatClampNeg (1000 : Int32))))) H := hP
              have hD : va_D A (((ws.set 12 (am, .inr (9, mF ad (upd z 21 (cCur (z 21))) (wi + cWir (z 21) (F 26)) (dm + (cLost (z 21) - cWir (z 21) (F 26)))))).set 27 (ad 27, .inl (cI, 12, .inl (cSpr (cCur (z 21)) (F 26) (F 27) i)))).set 27 (ad 27, .inl (cI, 12, .inl (upd (cSpr (cCur (z 21)) (F 26) (F 27) i) (nI i).toNatClampNeg (1000 : Int32))))) := hD
              rw [ew] at hP hD
              exact ihi H _ ls hlti (trivial) hP hD hS (lv_sub hl [2, 0] rfl)
        · refine lv_aload_n hx hb dX8_pulseOfTime_57 rfl (lv_at hl 1 rfl) ?_
          refine va_get (D := G) (ci := 9) (v := .ref (ad 26)) (C := RX8) (T := TX8) (N := 39) hx hb hts hiX8 hown hK hP 12 hm rfl 19 (by decide) (hts (.fieldLink RX8 49 "VortexpinModel" "part" "[I") (List.mem_of_getElem? (i := 2) rfl)) (fun _ h9 => h9) rfl dX8_pulseOfTime_58 ?_
          refine lv_iload_n hx hb dX8_pulseOfTime_61 rfl (lv_at hl 2 rfl) ?_
          refine lv_iconst (v := 1) hx hb dX8_pulseOfTime_62 (by decide) ?_
          refine lv_isub hx hb dX8_pulseOfTime_63 ?_
          refine va_iald hx hb hK hP 26 0 hA26 htI (by rw [nI_m1' (nI_pos0 c54)]; exact vp_in_nI (by omega) (by omega)) dX8_pulseOfTime_64 ?_
          refine rd_i (j := i - 1) (by rw [nI_m1' (nI_pos0 c54)]; exact nI_clamp (by omega)) ?_
          refine lv_aload_n hx hb dX8_pulseOfTime_65 rfl (lv_at hl 1 rfl) ?_
          refine va_get (D := G) (ci := 9) (v := .ref (ad 26)) (C := RX8) (T := TX8) (N := 39) hx hb hts hiX8 hown hK hP 12 hm rfl 19 (by decide) (hts (.fieldLink RX8 49 "VortexpinModel" "part" "[I") (List.mem_of_getElem? (i := 2) rfl)) (fun _ h9 => h9) rfl dX8_pulseOfTime_66 ?_
          refine lv_iload_n hx hb dX8_pulseOfTime_69 rfl (lv_at hl 2 rfl) ?_
          refine va_iald hx hb hK hP 26 0 hA26 htI (by first | exact vp_in_nI (by omega) (by omega) | assumption) dX8_pulseOfTime_70 ?_
          refine rd_i (j := i) (nI_clamp (by omega)) ?_
          refine lv_isub hx hb dX8_pulseOfTime_71 ?_
          refine lv_bipush (v := 8) hx hb dX8_pulseOfTime_72 (by decide) ?_
          refine lv_idiv hx hb dX8_pulseOfTime_74 (by decide) ?_
          refine lv_goto (tgt := 79) hx hb dX8_pulseOfTime_75 (by decide) ?_
          refine lv_iadd hx hb dX8_pulseOfTime_79 ?_
          refine lv_istore_n (lv' := [(2, .int ((((F 26) i) + (0 : Int32)) + ((((F 26) (i - 1)) - ((F 26) i)) / (8 : Int32)))), (0, .ref am), (1, .int (nI i))]) hx hb dX8_pulseOfTime_80 rfl hl (by decide) rfl (fun ls hl => ?_)
          refine lv_iload_n hx hb dX8_pulseOfTime_81 rfl (lv_at hl 0 rfl) ?_
          refine lv_iload_n hx hb dX8_pulseOfTime_82 rfl (lv_at hl 2 rfl) ?_
          refine lv_bipush (v := 11) hx hb dX8_pulseOfTime_83 (by decide) ?_
          refine lv_icmp_ge (tgt := 109) hx hb dX8_pulseOfTime_85 (by decide) (fun c85 => ?_) (fun c85 => ?_)
          · refine lv_iconst (v := 0) hx hb dX8_pulseOfTime_109 (by decide) ?_
            refine lv_iadd hx hb dX8_pulseOfTime_110 ?_
            refine lv_istore_n (lv' := [(2, .int (((((F 26) i) + (0 : Int32)) + ((((F 26) (i - 1)) - ((F 26) i)) / (8 : Int32))) + (0 : Int32))), (0, .ref am), (1, .int (nI i))]) hx hb dX8_pulseOfTime_111 rfl hl (by decide) rfl (fun ls hl => ?_)
            refine lv_iload_n hx hb dX8_pulseOfTime_112 rfl (lv_at hl 0 rfl) ?_
            refine lv_aload_n hx hb dX8_pulseOfTime_113 rfl (lv_at hl 1 rfl) ?_
            refine va_get (D := G) (ci := 9) (v := .ref (ad 26)) (C := RX8) (T := TX8) (N := 39) hx hb hts hiX8 hown hK hP 12 hm rfl 19 (by decide) (hts (.fieldLink RX8 49 "VortexpinModel" "part" "[I") (List.mem_of_getElem? (i := 2) rfl)) (fun _ h9 => h9) rfl dX8_pulseOfTime_114 ?_
            refine lv_iload_n hx hb dX8_pulseOfTime_117 rfl (lv_at hl 2 rfl) ?_
            refine va_iald hx hb hK hP 26 0 hA26 htI (by first | exact vp_in_nI (by omega) (by omega) | assumption) dX8_pulseOfTime_118 ?_
            refine rd_i (j := i) (nI_clamp (by omega)) ?_
            refine lv_iconst (v := 4) hx hb dX8_pulseOfTime_119 (by decide) ?_
            refine lv_isub hx hb dX8_pulseOfTime_120 ?_
            refine lv_bipush (v := 16) hx hb dX8_pulseOfTime_121 (by decide) ?_
            refine lv_idiv hx hb dX8_pulseOfTime_123 (by decide) ?_
            refine lv_isub hx hb dX8_pulseOfTime_124 ?_
            refine lv_istore_n (lv' := [(2, .int ((((((F 26) i) + (0 : Int32)) + ((((F 26) (i - 1)) - ((F 26) i)) / (8 : Int32))) + (0 : Int32)) - ((((F 26) i) - (4 : Int32)) / (16 : Int32)))), (0, .ref am), (1, .int (nI i))]) hx hb dX8_pulseOfTime_125 rfl hl (by decide) rfl (fun ls hl => ?_)
            refine lv_aload_n hx hb dX8_pulseOfTime_126 rfl (lv_at hl 1 rfl) ?_
            refine va_get (D := G) (ci := 9) (v := .ref (ad 27)) (C := RX8) (T := TX8) (N := 39) hx hb hts hiX8 hown hK hP 12 hm rfl 20 (by decide) (hts (.fieldLink RX8 52 "VortexpinModel" "partThen" "[I") (List.mem_of_getElem? (i := 4) rfl)) (fun _ h9 => h9) rfl dX8_pulseOfTime_127 ?_
            refine lv_iload_n hx hb dX8_pulseOfTime_130 rfl (lv_at hl 2 rfl) ?_
            refine lv_iload_n hx hb dX8_pulseOfTime_131 rfl (lv_at hl 0 rfl) ?_
            refine lv_sipush (v := 1000) hx hb dX8_pulseOfTime_132 (by decide) ?_
            refine lv_icmp_le (tgt := 144) hx hb dX8_pulseOfTime_135 (by decide) (fun c135 => ?_) (fun c135 => ?_)
            · refine lv_iload_n hx hb dX8_pulseOfTime_144 rfl (lv_at hl 0 rfl) ?_
              refine va_iast hx hb hK hP hD hS 27 0 hA27 htI (by first | exact vp_in_nI (by omega) (by omega) | assumption) dX8_pulseOfTime_145 (fun H locs hP hD hS => ?_)
              have hm := va_gs (k := 27) (e := (ad 27, .inl (cI, 12, .inl (upd (cSpr (cCur (z 21)) (F 26) (F 27) i) (nI i).toNatClampNeg ((((((F 26) i) + (0 : Int32)) + ((((F 26) (i - 1)) - ((F 26) i)) / (8 : Int32))) + (0 : Int32)) - ((((F 26) i) - (4 : Int32)) / (16 : Int32))))))) (by decide) hm
              have hA26 := va_gs (k := 27) (e := (ad 27, .inl (cI, 12, .inl (upd (cSpr (cCur (z 21)) (F 26) (F 27) i) (nI i).toNatClampNeg ((((((F 26) i) + (0 : Int32)) + ((((F 26) (i - 1)) - ((F 26) i)) / (8 : Int32))) + (0 : Int32)) - ((((F 26) i) - (4 : Int32)) / (16 : Int32))))))) (by decide) hA26
              have hA27 := va_ge (e := (ad 27, .inl (cI, 12, .inl (upd (cSpr (cCur (z 21)) (F 26) (F 27) i) (nI i).toNatClampNeg ((((((F 26) i) + (0 : Int32)) + ((((F 26) (i - 1)) - ((F 26) i)) / (8 : Int32))) + (0 : Int32)) - ((((F 26) i) - (4 : Int32)) / (16 : Int32))))))) hA27
              refine lv_iinc (v := nI (i + 1)) (lv' := [(1, .int (nI (i + 1))), (2, .int ((((((F 26) i) + (0 : Int32)) + ((((F 26) (i - 1)) - ((F 26) i)) / (8 : Int32))) + (0 : Int32)) - ((((F 26) i) - (4 : Int32)) / (16 : Int32)))), (0, .ref am)]) hx hb dX8_pulseOfTime_146 hl (k := 2) rfl (nI_1 i) (by decide) rfl (fun ls hl => ?_)
              refine lv_goto (tgt := 13) hx hb dX8_pulseOfTime_149 (by decide) ?_
              have ew : ((ws.set 12 (am, .inr (9, mF ad (upd z 21 (cCur (z 21))) (wi + cWir (z 21) (F 26)) (dm + (cLost (z 21) - cWir (z 21) (F 26)))))).set 27 (ad 27, .inl (cI, 12, .inl (cSpr (cCur (z 21)) (F 26) (F 27) i)))).set 27 (ad 27, .inl (cI, 12, .inl (upd (cSpr (cCur (z 21)) (F 26) (F 27) i) (nI i).toNatClampNeg ((((((F 26) i) + (0 : Int32)) + ((((F 26) (i - 1)) - ((F 26) i)) / (8 : Int32))) + (0 : Int32)) - ((((F 26) i) - (4 : Int32)) / (16 : Int32)))))) = (ws.set 12 (am, .inr (9, mF ad (upd z 21 (cCur (z 21))) (wi + cWir (z 21) (F 26)) (dm + (cLost (z 21) - cWir (z 21) (F 26)))))).set 27 (ad 27, .inl (cI, 12, .inl (cSpr (cCur (z 21)) (F 26) (F 27) (i + 1)))) := by subst h27; have e9 := mV_eq (cCur (z 21)) (F 26) hlti; unfold mV4 mV3 mV2 mV1 at e9; simp only [(eq_true c30), c54, c85, ↓reduceIte] at e9; rw [nI_clamp (show i < 2 ^ 31 by omega), List.set_set, ← cSpr_s, ← e9, jmin_a c135]
              have hP : va_P G vwCl (((ws.set 12 (am, .inr (9, mF ad (upd z 21 (cCur (z 21))) (wi + cWir (z 21) (F 26)) (dm + (cLost (z 21) - cWir (z 21) (F 26)))))).set 27 (ad 27, .inl (cI, 12, .inl (cSpr (cCur (z 21)) (F 26) (F 27) i)))).set 27 (ad 27, .inl (cI, 12, .inl (upd (cSpr (cCur (z 21)) (F 26) (F 27) i) (nI i).toNatClampNeg ((((((F 26) i) + (0 : Int32)) + ((((F 26) (i - 1)) - ((F 26) i)) / (8 : Int32))) + (0 : Int32)) - ((((F 26) i) - (4 : Int32)) / (16 : Int32))))))) H := hP
              have hD : va_D A (((ws.set 12 (am, .inr (9, mF ad (upd z 21 (cCur (z 21))) (wi + cWir (z 21) (F 26)) (dm + (cLost (z 21) - cWir (z 21) (F 26)))))).set 27 (ad 27, .inl (cI, 12, .inl (cSpr (cCur (z 21)) (F 26) (F 27) i)))).set 27 (ad 27, .inl (cI, 12, .inl (upd (cSpr (cCur (z 21)) (F 26) (F 27) i) (nI i).toNatClampNeg ((((((F 26) i) + (0 : Int32)) + ((((F 26) (i - 1)) - ((F 26) i)) / (8 : Int32))) + (0 : Int32)) - ((((F 26) i) - (4 : Int32)) / (16 : Int32))))))) := hD
              rw [ew] at hP hD
              exact ihi H _ ls hlti (trivial) hP hD hS (lv_sub hl [2, 0] rfl)
            · refine lv_sipush (v := 1000) hx hb dX8_pulseOfTime_138 (by decide) ?_
              refine lv_goto (tgt := 145) hx hb dX8_pulseOfTime_141 (by decide) ?_
              refine va_iast hx hb hK hP hD hS 27 0 hA27 htI (by first | exact vp_in_nI (by omega) (by omega) | assumption) dX8_pulseOfTime_145 (fun H locs hP hD hS => ?_)
              have hm := va_gs (k := 27) (e := (ad 27, .inl (cI, 12, .inl (upd (cSpr (cCur (z 21)) (F 26) (F 27) i) (nI i).toNatClampNeg (1000 : Int32))))) (by decide) hm
              have hA26 := va_gs (k := 27) (e := (ad 27, .inl (cI, 12, .inl (upd (cSpr (cCur (z 21)) (F 26) (F 27) i) (nI i).toNatClampNeg (1000 : Int32))))) (by decide) hA26
              have hA27 := va_ge (e := (ad 27, .inl (cI, 12, .inl (upd (cSpr (cCur (z 21)) (F 26) (F 27) i) (nI i).toNatClampNeg (1000 : Int32))))) hA27
              refine lv_iinc (v := nI (i + 1)) (lv' := [(1, .int (nI (i + 1))), (2, .int ((((((F 26) i) + (0 : Int32)) + ((((F 26) (i - 1)) - ((F 26) i)) / (8 : Int32))) + (0 : Int32)) - ((((F 26) i) - (4 : Int32)) / (16 : Int32)))), (0, .ref am)]) hx hb dX8_pulseOfTime_146 hl (k := 2) rfl (nI_1 i) (by decide) rfl (fun ls hl => ?_)
              refine lv_goto (tgt := 13) hx hb dX8_pulseOfTime_149 (by decide) ?_
              have ew : ((ws.set 12 (am, .inr (9, mF ad (upd z 21 (cCur (z 21))) (wi + cWir (z 21) (F 26)) (dm + (cLost (z 21) - cWir (z 21) (F 26)))))).set 27 (ad 27, .inl (cI, 12, .inl (cSpr (cCur (z 21)) (F 26) (F 27) i)))).set 27 (ad 27, .inl (cI, 12, .inl (upd (cSpr (cCur (z 21)) (F 26) (F 27) i) (nI i).toNatClampNeg (1000 : Int32)))) = (ws.set 12 (am, .inr (9, mF ad (upd z 21 (cCur (z 21))) (wi + cWir (z 21) (F 26)) (dm + (cLost (z 21) - cWir (z 21) (F 26)))))).set 27 (ad 27, .inl (cI, 12, .inl (cSpr (cCur (z 21)) (F 26) (F 27) (i + 1)))) := by subst h27; have e9 := mV_eq (cCur (z 21)) (F 26) hlti; unfold mV4 mV3 mV2 mV1 at e9; simp only [(eq_true c30), c54, c85, ↓reduceIte] at e9; rw [nI_clamp (show i < 2 ^ 31 by omega), List.set_set, ← cSpr_s, ← e9, jmin_b c135]
              have hP : va_P G vwCl (((ws.set 12 (am, .inr (9, mF ad (upd z 21 (cCur (z 21))) (wi + cWir (z 21) (F 26)) (dm + (cLost (z 21) - cWir (z 21) (F 26)))))).set 27 (ad 27, .inl (cI, 12, .inl (cSpr (cCur (z 21)) (F 26) (F 27) i)))).set 27 (ad 27, .inl (cI, 12, .inl (upd (cSpr (cCur (z 21)) (F 26) (F 27) i) (nI i).toNatClampNeg (1000 : Int32))))) H := hP
              have hD : va_D A (((ws.set 12 (am, .inr (9, mF ad (upd z 21 (cCur (z 21))) (wi + cWir (z 21) (F 26)) (dm + (cLost (z 21) - cWir (z 21) (F 26)))))).set 27 (ad 27, .inl (cI, 12, .inl (cSpr (cCur (z 21)) (F 26) (F 27) i)))).set 27 (ad 27, .inl (cI, 12, .inl (upd (cSpr (cCur (z 21)) (F 26) (F 27) i) (nI i).toNatClampNeg (1000 : Int32))))) := hD
              rw [ew] at hP hD
              exact ihi H _ ls hlti (trivial) hP hD hS (lv_sub hl [2, 0] rfl)
          · refine lv_aload_n hx hb dX8_pulseOfTime_88 rfl (lv_at hl 1 rfl) ?_
            refine va_get (D := G) (ci := 9) (v := .ref (ad 26)) (C := RX8) (T := TX8) (N := 39) hx hb hts hiX8 hown hK hP 12 hm rfl 19 (by decide) (hts (.fieldLink RX8 49 "VortexpinModel" "part" "[I") (List.mem_of_getElem? (i := 2) rfl)) (fun _ h9 => h9) rfl dX8_pulseOfTime_89 ?_
            refine lv_iload_n hx hb dX8_pulseOfTime_92 rfl (lv_at hl 2 rfl) ?_
            refine lv_iconst (v := 1) hx hb dX8_pulseOfTime_93 (by decide) ?_
            refine lv_iadd hx hb dX8_pulseOfTime_94 ?_
            refine va_iald hx hb hK hP 26 0 hA26 htI (by rw [nI_1]; exact vp_in_nI (by have := mt (nI_leI (a := 11) (b := i) (by omega) (by omega)).mpr c85; omega) (by omega)) dX8_pulseOfTime_95 ?_
            refine rd_i (j := i + 1) (by rw [nI_1]; exact nI_clamp (by omega)) ?_
            refine lv_aload_n hx hb dX8_pulseOfTime_96 rfl (lv_at hl 1 rfl) ?_
            refine va_get (D := G) (ci := 9) (v := .ref (ad 26)) (C := RX8) (T := TX8) (N := 39) hx hb hts hiX8 hown hK hP 12 hm rfl 19 (by decide) (hts (.fieldLink RX8 49 "VortexpinModel" "part" "[I") (List.mem_of_getElem? (i := 2) rfl)) (fun _ h9 => h9) rfl dX8_pulseOfTime_97 ?_
            refine lv_iload_n hx hb dX8_pulseOfTime_100 rfl (lv_at hl 2 rfl) ?_
            refine va_iald hx hb hK hP 26 0 hA26 htI (by first | exact vp_in_nI (by omega) (by omega) | assumption) dX8_pulseOfTime_101 ?_
            refine rd_i (j := i) (nI_clamp (by omega)) ?_
            refine lv_isub hx hb dX8_pulseOfTime_102 ?_
            refine lv_bipush (v := 8) hx hb dX8_pulseOfTime_103 (by decide) ?_
            refine lv_idiv hx hb dX8_pulseOfTime_105 (by decide) ?_
            refine lv_goto (tgt := 110) hx hb dX8_pulseOfTime_106 (by decide) ?_
            refine lv_iadd hx hb dX8_pulseOfTime_110 ?_
            refine lv_istore_n (lv' := [(2, .int (((((F 26) i) + (0 : Int32)) + ((((F 26) (i - 1)) - ((F 26) i)) / (8 : Int32))) + ((((F 26) (i + 1)) - ((F 26) i)) / (8 : Int32)))), (0, .ref am), (1, .int (nI i))]) hx hb dX8_pulseOfTime_111 rfl hl (by decide) rfl (fun ls hl => ?_)
            refine lv_iload_n hx hb dX8_pulseOfTime_112 rfl (lv_at hl 0 rfl) ?_
            refine lv_aload_n hx hb dX8_pulseOfTime_113 rfl (lv_at hl 1 rfl) ?_
            refine va_get (D := G) (ci := 9) (v := .ref (ad 26)) (C := RX8) (T := TX8) (N := 39) hx hb hts hiX8 hown hK hP 12 hm rfl 19 (by decide) (hts (.fieldLink RX8 49 "VortexpinModel" "part" "[I") (List.mem_of_getElem? (i := 2) rfl)) (fun _ h9 => h9) rfl dX8_pulseOfTime_114 ?_
            refine lv_iload_n hx hb dX8_pulseOfTime_117 rfl (lv_at hl 2 rfl) ?_
            refine va_iald hx hb hK hP 26 0 hA26 htI (by first | exact vp_in_nI (by omega) (by omega) | assumption) dX8_pulseOfTime_118 ?_
            refine rd_i (j := i) (nI_clamp (by omega)) ?_
            refine lv_iconst (v := 4) hx hb dX8_pulseOfTime_119 (by decide) ?_
            refine lv_isub hx hb dX8_pulseOfTime_120 ?_
            refine lv_bipush (v := 16) hx hb dX8_pulseOfTime_121 (by decide) ?_
            refine lv_idiv hx hb dX8_pulseOfTime_123 (by decide) ?_
            refine lv_isub hx hb dX8_pulseOfTime_124 ?_
            refine lv_istore_n (lv' := [(2, .int ((((((F 26) i) + (0 : Int32)) + ((((F 26) (i - 1)) - ((F 26) i)) / (8 : Int32))) + ((((F 26) (i + 1)) - ((F 26) i)) / (8 : Int32))) - ((((F 26) i) - (4 : Int32)) / (16 : Int32)))), (0, .ref am), (1, .int (nI i))]) hx hb dX8_pulseOfTime_125 rfl hl (by decide) rfl (fun ls hl => ?_)
            refine lv_aload_n hx hb dX8_pulseOfTime_126 rfl (lv_at hl 1 rfl) ?_
            refine va_get (D := G) (ci := 9) (v := .ref (ad 27)) (C := RX8) (T := TX8) (N := 39) hx hb hts hiX8 hown hK hP 12 hm rfl 20 (by decide) (hts (.fieldLink RX8 52 "VortexpinModel" "partThen" "[I") (List.mem_of_getElem? (i := 4) rfl)) (fun _ h9 => h9) rfl dX8_pulseOfTime_127 ?_
            refine lv_iload_n hx hb dX8_pulseOfTime_130 rfl (lv_at hl 2 rfl) ?_
            refine lv_iload_n hx hb dX8_pulseOfTime_131 rfl (lv_at hl 0 rfl) ?_
            refine lv_sipush (v := 1000) hx hb dX8_pulseOfTime_132 (by decide) ?_
            refine lv_icmp_le (tgt := 144) hx hb dX8_pulseOfTime_135 (by decide) (fun c135 => ?_) (fun c135 => ?_)
            · refine lv_iload_n hx hb dX8_pulseOfTime_144 rfl (lv_at hl 0 rfl) ?_
              refine va_iast hx hb hK hP hD hS 27 0 hA27 htI (by first | exact vp_in_nI (by omega) (by omega) | assumption) dX8_pulseOfTime_145 (fun H locs hP hD hS => ?_)
              have hm := va_gs (k := 27) (e := (ad 27, .inl (cI, 12, .inl (upd (cSpr (cCur (z 21)) (F 26) (F 27) i) (nI i).toNatClampNeg ((((((F 26) i) + (0 : Int32)) + ((((F 26) (i - 1)) - ((F 26) i)) / (8 : Int32))) + ((((F 26) (i + 1)) - ((F 26) i)) / (8 : Int32))) - ((((F 26) i) - (4 : Int32)) / (16 : Int32))))))) (by decide) hm
              have hA26 := va_gs (k := 27) (e := (ad 27, .inl (cI, 12, .inl (upd (cSpr (cCur (z 21)) (F 26) (F 27) i) (nI i).toNatClampNeg ((((((F 26) i) + (0 : Int32)) + ((((F 26) (i - 1)) - ((F 26) i)) / (8 : Int32))) + ((((F 26) (i + 1)) - ((F 26) i)) / (8 : Int32))) - ((((F 26) i) - (4 : Int32)) / (16 : Int32))))))) (by decide) hA26
              have hA27 := va_ge (e := (ad 27, .inl (cI, 12, .inl (upd (cSpr (cCur (z 21)) (F 26) (F 27) i) (nI i).toNatClampNeg ((((((F 26) i) + (0 : Int32)) + ((((F 26) (i - 1)) - ((F 26) i)) / (8 : Int32))) + ((((F 26) (i + 1)) - ((F 26) i)) / (8 : Int32))) - ((((F 26) i) - (4 : Int32)) / (16 : Int32))))))) hA27
              refine lv_iinc (v := nI (i + 1)) (lv' := [(1, .int (nI (i + 1))), (2, .int ((((((F 26) i) + (0 : Int32)) + ((((F 26) (i - 1)) - ((F 26) i)) / (8 : Int32))) + ((((F 26) (i + 1)) - ((F 26) i)) / (8 : Int32))) - ((((F 26) i) - (4 : Int32)) / (16 : Int32)))), (0, .ref am)]) hx hb dX8_pulseOfTime_146 hl (k := 2) rfl (nI_1 i) (by decide) rfl (fun ls hl => ?_)
              refine lv_goto (tgt := 13) hx hb dX8_pulseOfTime_149 (by decide) ?_
              have ew : ((ws.set 12 (am, .inr (9, mF ad (upd z 21 (cCur (z 21))) (wi + cWir (z 21) (F 26)) (dm + (cLost (z 21) - cWir (z 21) (F 26)))))).set 27 (ad 27, .inl (cI, 12, .inl (cSpr (cCur (z 21)) (F 26) (F 27) i)))).set 27 (ad 27, .inl (cI, 12, .inl (upd (cSpr (cCur (z 21)) (F 26) (F 27) i) (nI i).toNatClampNeg ((((((F 26) i) + (0 : Int32)) + ((((F 26) (i - 1)) - ((F 26) i)) / (8 : Int32))) + ((((F 26) (i + 1)) - ((F 26) i)) / (8 : Int32))) - ((((F 26) i) - (4 : Int32)) / (16 : Int32)))))) = (ws.set 12 (am, .inr (9, mF ad (upd z 21 (cCur (z 21))) (wi + cWir (z 21) (F 26)) (dm + (cLost (z 21) - cWir (z 21) (F 26)))))).set 27 (ad 27, .inl (cI, 12, .inl (cSpr (cCur (z 21)) (F 26) (F 27) (i + 1)))) := by subst h27; have e9 := mV_eq (cCur (z 21)) (F 26) hlti; unfold mV4 mV3 mV2 mV1 at e9; simp only [(eq_true c30), c54, c85, ↓reduceIte] at e9; rw [nI_clamp (show i < 2 ^ 31 by omega), List.set_set, ← cSpr_s, ← e9, jmin_a c135]
              have hP : va_P G vwCl (((ws.set 12 (am, .inr (9, mF ad (upd z 21 (cCur (z 21))) (wi + cWir (z 21) (F 26)) (dm + (cLost (z 21) - cWir (z 21) (F 26)))))).set 27 (ad 27, .inl (cI, 12, .inl (cSpr (cCur (z 21)) (F 26) (F 27) i)))).set 27 (ad 27, .inl (cI, 12, .inl (upd (cSpr (cCur (z 21)) (F 26) (F 27) i) (nI i).toNatClampNeg ((((((F 26) i) + (0 : Int32)) + ((((F 26) (i - 1)) - ((F 26) i)) / (8 : Int32))) + ((((F 26) (i + 1)) - ((F 26) i)) / (8 : Int32))) - ((((F 26) i) - (4 : Int32)) / (16 : Int32))))))) H := hP
              have hD : va_D A (((ws.set 12 (am, .inr (9, mF ad (upd z 21 (cCur (z 21))) (wi + cWir (z 21) (F 26)) (dm + (cLost (z 21) - cWir (z 21) (F 26)))))).set 27 (ad 27, .inl (cI, 12, .inl (cSpr (cCur (z 21)) (F 26) (F 27) i)))).set 27 (ad 27, .inl (cI, 12, .inl (upd (cSpr (cCur (z 21)) (F 26) (F 27) i) (nI i).toNatClampNeg ((((((F 26) i) + (0 : Int32)) + ((((F 26) (i - 1)) - ((F 26) i)) / (8 : Int32))) + ((((F 26) (i + 1)) - ((F 26) i)) / (8 : Int32))) - ((((F 26) i) - (4 : Int32)) / (16 : Int32))))))) := hD
              rw [ew] at hP hD
              exact ihi H _ ls hlti (trivial) hP hD hS (lv_sub hl [2, 0] rfl)
            · refine lv_sipush (v := 1000) hx hb dX8_pulseOfTime_138 (by decide) ?_
              refine lv_goto (tgt := 145) hx hb dX8_pulseOfTime_141 (by decide) ?_
              refine va_iast hx hb hK hP hD hS 27 0 hA27 htI (by first | exact vp_in_nI (by omega) (by omega) | assumption) dX8_pulseOfTime_145 (fun H locs hP hD hS => ?_)
              have hm := va_gs (k := 27) (e := (ad 27, .inl (cI, 12, .inl (upd (cSpr (cCur (z 21)) (F 26) (F 27) i) (nI i).toNatClampNeg (1000 : Int32))))) (by decide) hm
              have hA26 := va_gs (k := 27) (e := (ad 27, .inl (cI, 12, .inl (upd (cSpr (cCur (z 21)) (F 26) (F 27) i) (nI i).toNatClampNeg (1000 : Int32))))) (by decide) hA26
              have hA27 := va_ge (e := (ad 27, .inl (cI, 12, .inl (upd (cSpr (cCur (z 21)) (F 26) (F 27) i) (nI i).toNatClampNeg (1000 : Int32))))) hA27
              refine lv_iinc (v := nI (i + 1)) (lv' := [(1, .int (nI (i + 1))), (2, .int ((((((F 26) i) + (0 : Int32)) + ((((F 26) (i - 1)) - ((F 26) i)) / (8 : Int32))) + ((((F 26) (i + 1)) - ((F 26) i)) / (8 : Int32))) - ((((F 26) i) - (4 : Int32)) / (16 : Int32)))), (0, .ref am)]) hx hb dX8_pulseOfTime_146 hl (k := 2) rfl (nI_1 i) (by decide) rfl (fun ls hl => ?_)
              refine lv_goto (tgt := 13) hx hb dX8_pulseOfTime_149 (by decide) ?_
              have ew : ((ws.set 12 (am, .inr (9, mF ad (upd z 21 (cCur (z 21))) (wi + cWir (z 21) (F 26)) (dm + (cLost (z 21) - cWir (z 21) (F 26)))))).set 27 (ad 27, .inl (cI, 12, .inl (cSpr (cCur (z 21)) (F 26) (F 27) i)))).set 27 (ad 27, .inl (cI, 12, .inl (upd (cSpr (cCur (z 21)) (F 26) (F 27) i) (nI i).toNatClampNeg (1000 : Int32)))) = (ws.set 12 (am, .inr (9, mF ad (upd z 21 (cCur (z 21))) (wi + cWir (z 21) (F 26)) (dm + (cLost (z 21) - cWir (z 21) (F 26)))))).set 27 (ad 27, .inl (cI, 12, .inl (cSpr (cCur (z 21)) (F 26) (F 27) (i + 1)))) := by subst h27; have e9 := mV_eq (cCur (z 21)) (F 26) hlti; unfold mV4 mV3 mV2 mV1 at e9; simp only [(eq_true c30), c54, c85, ↓reduceIte] at e9; rw [nI_clamp (show i < 2 ^ 31 by omega), List.set_set, ← cSpr_s, ← e9, jmin_b c135]
              have hP : va_P G vwCl (((ws.set 12 (am, .inr (9, mF ad (upd z 21 (cCur (z 21))) (wi + cWir (z 21) (F 26)) (dm + (cLost (z 21) - cWir (z 21) (F 26)))))).set 27 (ad 27, .inl (cI, 12, .inl (cSpr (cCur (z 21)) (F 26) (F 27) i)))).set 27 (ad 27, .inl (cI, 12, .inl (upd (cSpr (cCur (z 21)) (F 26) (F 27) i) (nI i).toNatClampNeg (1000 : Int32))))) H := hP
              have hD : va_D A (((ws.set 12 (am, .inr (9, mF ad (upd z 21 (cCur (z 21))) (wi + cWir (z 21) (F 26)) (dm + (cLost (z 21) - cWir (z 21) (F 26)))))).set 27 (ad 27, .inl (cI, 12, .inl (cSpr (cCur (z 21)) (F 26) (F 27) i)))).set 27 (ad 27, .inl (cI, 12, .inl (upd (cSpr (cCur (z 21)) (F 26) (F 27) i) (nI i).toNatClampNeg (1000 : Int32))))) := hD
              rw [ew] at hP hD
              exact ihi H _ ls hlti (trivial) hP hD hS (lv_sub hl [2, 0] rfl)
      · refine lv_aload_n hx hb dX8_pulseOfTime_33 rfl (lv_at hl 0 rfl) ?_
        refine va_get (D := G) (ci := 9) (v := .int (cCur (z 21))) (C := RX8) (T := TX8) (N := 39) hx hb hts hiX8 hown hK hP 12 hm rfl 21 (by decide) (hts (.fieldLink RX8 147 "VortexpinModel" "current" "I") (List.mem_of_getElem? (i := 3) rfl)) (fun _ h9 => h9) rfl dX8_pulseOfTime_34 ?_
        refine lv_aload_n hx hb dX8_pulseOfTime_37 rfl (lv_at hl 0 rfl) ?_
        refine va_get (D := G) (ci := 9) (v := .int (cCur (z 21))) (C := RX8) (T := TX8) (N := 39) hx hb hts hiX8 hown hK hP 12 hm rfl 21 (by decide) (hts (.fieldLink RX8 147 "VortexpinModel" "current" "I") (List.mem_of_getElem? (i := 3) rfl)) (fun _ h9 => h9) rfl dX8_pulseOfTime_38 ?_
        refine lv_imul hx hb dX8_pulseOfTime_41 ?_
        refine lv_sipush (v := 2000) hx hb dX8_pulseOfTime_42 (by decide) ?_
        refine lv_idiv hx hb dX8_pulseOfTime_45 (by decide) ?_
        refine lv_goto (tgt := 50) hx hb dX8_pulseOfTime_46 (by decide) ?_
        refine lv_iadd hx hb dX8_pulseOfTime_50 ?_
        refine lv_istore_n (lv' := [(2, .int (((F 26) i) + (((cCur (z 21)) * (cCur (z 21))) / (2000 : Int32)))), (0, .ref am), (1, .int (nI i))]) hx hb dX8_pulseOfTime_51 rfl hl (by decide) rfl (fun ls hl => ?_)
        refine lv_iload_n hx hb dX8_pulseOfTime_52 rfl (lv_at hl 0 rfl) ?_
        refine lv_iload_n hx hb dX8_pulseOfTime_53 rfl (lv_at hl 2 rfl) ?_
        refine lv_if_le (tgt := 78) hx hb dX8_pulseOfTime_54 (by decide) (fun c54 => ?_) (fun c54 => ?_)
        · refine lv_iconst (v := 0) hx hb dX8_pulseOfTime_78 (by decide) ?_
          refine lv_iadd hx hb dX8_pulseOfTime_79 ?_
          refine lv_istore_n (lv' := [(2, .int ((((F 26) i) + (((cCur (z 21)) * (cCur (z 21))) / (2000 : Int32))) + (0 : Int32))), (0, .ref am), (1, .int (nI i))]) hx hb dX8_pulseOfTime_80 rfl hl (by decide) rfl (fun ls hl => ?_)
          refine lv_iload_n hx hb dX8_pulseOfTime_81 rfl (lv_at hl 0 rfl) ?_
          refine lv_iload_n hx hb dX8_pulseOfTime_82 rfl (lv_at hl 2 rfl) ?_
          refine lv_bipush (v := 11) hx hb dX8_pulseOfTime_83 (by decide) ?_
          refine lv_icmp_ge (tgt := 109) hx hb dX8_pulseOfTime_85 (by decide) (fun c85 => ?_) (fun c85 => ?_)
          · refine lv_iconst (v := 0) hx hb dX8_pulseOfTime_109 (by decide) ?_
            refine lv_iadd hx hb dX8_pulseOfTime_110 ?_
            refine lv_istore_n (lv' := [(2, .int (((((F 26) i) + (((cCur (z 21)) * (cCur (z 21))) / (2000 : Int32))) + (0 : Int32)) + (0 : Int32))), (0, .ref am), (1, .int (nI i))]) hx hb dX8_pulseOfTime_111 rfl hl (by decide) rfl (fun ls hl => ?_)
            refine lv_iload_n hx hb dX8_pulseOfTime_112 rfl (lv_at hl 0 rfl) ?_
            refine lv_aload_n hx hb dX8_pulseOfTime_113 rfl (lv_at hl 1 rfl) ?_
            refine va_get (D := G) (ci := 9) (v := .ref (ad 26)) (C := RX8) (T := TX8) (N := 39) hx hb hts hiX8 hown hK hP 12 hm rfl 19 (by decide) (hts (.fieldLink RX8 49 "VortexpinModel" "part" "[I") (List.mem_of_getElem? (i := 2) rfl)) (fun _ h9 => h9) rfl dX8_pulseOfTime_114 ?_
            refine lv_iload_n hx hb dX8_pulseOfTime_117 rfl (lv_at hl 2 rfl) ?_
            refine va_iald hx hb hK hP 26 0 hA26 htI (by first | exact vp_in_nI (by omega) (by omega) | assumption) dX8_pulseOfTime_118 ?_
            refine rd_i (j := i) (nI_clamp (by omega)) ?_
            refine lv_iconst (v := 4) hx hb dX8_pulseOfTime_119 (by decide) ?_
            refine lv_isub hx hb dX8_pulseOfTime_120 ?_
            refine lv_bipush (v := 16) hx hb dX8_pulseOfTime_121 (by decide) ?_
            refine lv_idiv hx hb dX8_pulseOfTime_123 (by decide) ?_
            refine lv_isub hx hb dX8_pulseOfTime_124 ?_
            refine lv_istore_n (lv' := [(2, .int ((((((F 26) i) + (((cCur (z 21)) * (cCur (z 21))) / (2000 : Int32))) + (0 : Int32)) + (0 : Int32)) - ((((F 26) i) - (4 : Int32)) / (16 : Int32)))), (0, .ref am), (1, .int (nI i))]) hx hb dX8_pulseOfTime_125 rfl hl (by decide) rfl (fun ls hl => ?_)
            refine lv_aload_n hx hb dX8_pulseOfTime_126 rfl (lv_at hl 1 rfl) ?_
            refine va_get (D := G) (ci := 9) (v := .ref (ad 27)) (C := RX8) (T := TX8) (N := 39) hx hb hts hiX8 hown hK hP 12 hm rfl 20 (by decide) (hts (.fieldLink RX8 52 "VortexpinModel" "partThen" "[I") (List.mem_of_getElem? (i := 4) rfl)) (fun _ h9 => h9) rfl dX8_pulseOfTime_127 ?_
            refine lv_iload_n hx hb dX8_pulseOfTime_130 rfl (lv_at hl 2 rfl) ?_
            refine lv_iload_n hx hb dX8_pulseOfTime_131 rfl (lv_at hl 0 rfl) ?_
            refine lv_sipush (v := 1000) hx hb dX8_pulseOfTime_132 (by decide) ?_
            refine lv_icmp_le (tgt := 144) hx hb dX8_pulseOfTime_135 (by decide) (fun c135 => ?_) (fun c135 => ?_)
            · refine lv_iload_n hx hb dX8_pulseOfTime_144 rfl (lv_at hl 0 rfl) ?_
              refine va_iast hx hb hK hP hD hS 27 0 hA27 htI (by first | exact vp_in_nI (by omega) (by omega) | assumption) dX8_pulseOfTime_145 (fun H locs hP hD hS => ?_)
              have hm := va_gs (k := 27) (e := (ad 27, .inl (cI, 12, .inl (upd (cSpr (cCur (z 21)) (F 26) (F 27) i) (nI i).toNatClampNeg ((((((F 26) i) + (((cCur (z 21)) * (cCur (z 21))) / (2000 : Int32))) + (0 : Int32)) + (0 : Int32)) - ((((F 26) i) - (4 : Int32)) / (16 : Int32))))))) (by decide) hm
              have hA26 := va_gs (k := 27) (e := (ad 27, .inl (cI, 12, .inl (upd (cSpr (cCur (z 21)) (F 26) (F 27) i) (nI i).toNatClampNeg ((((((F 26) i) + (((cCur (z 21)) * (cCur (z 21))) / (2000 : Int32))) + (0 : Int32)) + (0 : Int32)) - ((((F 26) i) - (4 : Int32)) / (16 : Int32))))))) (by decide) hA26
              have hA27 := va_ge (e := (ad 27, .inl (cI, 12, .inl (upd (cSpr (cCur (z 21)) (F 26) (F 27) i) (nI i).toNatClampNeg ((((((F 26) i) + (((cCur (z 21)) * (cCur (z 21))) / (2000 : Int32))) + (0 : Int32)) + (0 : Int32)) - ((((F 26) i) - (4 : Int32)) / (16 : Int32))))))) hA27
              refine lv_iinc (v := nI (i + 1)) (lv' := [(1, .int (nI (i + 1))), (2, .int ((((((F 26) i) + (((cCur (z 21)) * (cCur (z 21))) / (2000 : Int32))) + (0 : Int32)) + (0 : Int32)) - ((((F 26) i) - (4 : Int32)) / (16 : Int32)))), (0, .ref am)]) hx hb dX8_pulseOfTime_146 hl (k := 2) rfl (nI_1 i) (by decide) rfl (fun ls hl => ?_)
              refine lv_goto (tgt := 13) hx hb dX8_pulseOfTime_149 (by decide) ?_
              have ew : ((ws.set 12 (am, .inr (9, mF ad (upd z 21 (cCur (z 21))) (wi + cWir (z 21) (F 26)) (dm + (cLost (z 21) - cWir (z 21) (F 26)))))).set 27 (ad 27, .inl (cI, 12, .inl (cSpr (cCur (z 21)) (F 26) (F 27) i)))).set 27 (ad 27, .inl (cI, 12, .inl (upd (cSpr (cCur (z 21)) (F 26) (F 27) i) (nI i).toNatClampNeg ((((((F 26) i) + (((cCur (z 21)) * (cCur (z 21))) / (2000 : Int32))) + (0 : Int32)) + (0 : Int32)) - ((((F 26) i) - (4 : Int32)) / (16 : Int32)))))) = (ws.set 12 (am, .inr (9, mF ad (upd z 21 (cCur (z 21))) (wi + cWir (z 21) (F 26)) (dm + (cLost (z 21) - cWir (z 21) (F 26)))))).set 27 (ad 27, .inl (cI, 12, .inl (cSpr (cCur (z 21)) (F 26) (F 27) (i + 1)))) := by subst h27; have e9 := mV_eq (cCur (z 21)) (F 26) hlti; unfold mV4 mV3 mV2 mV1 at e9; simp only [c30, c54, c85, ↓reduceIte] at e9; rw [nI_clamp (show i < 2 ^ 31 by omega), List.set_set, ← cSpr_s, ← e9, jmin_a c135]
              have hP : va_P G vwCl (((ws.set 12 (am, .inr (9, mF ad (upd z 21 (cCur (z 21))) (wi + cWir (z 21) (F 26)) (dm + (cLost (z 21) - cWir (z 21) (F 26)))))).set 27 (ad 27, .inl (cI, 12, .inl (cSpr (cCur (z 21)) (F 26) (F 27) i)))).set 27 (ad 27, .inl (cI, 12, .inl (upd (cSpr (cCur (z 21)) (F 26) (F 27) i) (nI i).toNatClampNeg ((((((F 26) i) + (((cCur (z 21)) * (cCur (z 21))) / (2000 : Int32))) + (0 : Int32)) + (0 : Int32)) - ((((F 26) i) - (4 : Int32)) / (16 : Int32))))))) H := hP
              have hD : va_D A (((ws.set 12 (am, .inr (9, mF ad (upd z 21 (cCur (z 21))) (wi + cWir (z 21) (F 26)) (dm + (cLost (z 21) - cWir (z 21) (F 26)))))).set 27 (ad 27, .inl (cI, 12, .inl (cSpr (cCur (z 21)) (F 26) (F 27) i)))).set 27 (ad 27, .inl (cI, 12, .inl (upd (cSpr (cCur (z 21)) (F 26) (F 27) i) (nI i).toNatClampNeg ((((((F 26) i) + (((cCur (z 21)) * (cCur (z 21))) / (2000 : Int32))) + (0 : Int32)) + (0 : Int32)) - ((((F 26) i) - (4 : Int32)) / (16 : Int32))))))) := hD
              rw [ew] at hP hD
              exact ihi H _ ls hlti (trivial) hP hD hS (lv_sub hl [2, 0] rfl)
            · refine lv_sipush (v := 1000) hx hb dX8_pulseOfTime_138 (by decide) ?_
              refine lv_goto (tgt := 145) hx hb dX8_pulseOfTime_141 (by decide) ?_
              refine va_iast hx hb hK hP hD hS 27 0 hA27 htI (by first | exact vp_in_nI (by omega) (by omega) | assumption) dX8_pulseOfTime_145 (fun H locs hP hD hS => ?_)
              have hm := va_gs (k := 27) (e := (ad 27, .inl (cI, 12, .inl (upd (cSpr (cCur (z 21)) (F 26) (F 27) i) (nI i).toNatClampNeg (1000 : Int32))))) (by decide) hm
              have hA26 := va_gs (k := 27) (e := (ad 27, .inl (cI, 12, .inl (upd (cSpr (cCur (z 21)) (F 26) (F 27) i) (nI i).toNatClampNeg (1000 : Int32))))) (by decide) hA26
              have hA27 := va_ge (e := (ad 27, .inl (cI, 12, .inl (upd (cSpr (cCur (z 21)) (F 26) (F 27) i) (nI i).toNatClampNeg (1000 : Int32))))) hA27
              refine lv_iinc (v := nI (i + 1)) (lv' := [(1, .int (nI (i + 1))), (2, .int ((((((F 26) i) + (((cCur (z 21)) * (cCur (z 21))) / (2000 : Int32))) + (0 : Int32)) + (0 : Int32)) - ((((F 26) i) - (4 : Int32)) / (16 : Int32)))), (0, .ref am)]) hx hb dX8_pulseOfTime_146 hl (k := 2) rfl (nI_1 i) (by decide) rfl (fun ls hl => ?_)
              refine lv_goto (tgt := 13) hx hb dX8_pulseOfTime_149 (by decide) ?_
              have ew : ((ws.set 12 (am, .inr (9, mF ad (upd z 21 (cCur (z 21))) (wi + cWir (z 21) (F 26)) (dm + (cLost (z 21) - cWir (z 21) (F 26)))))).set 27 (ad 27, .inl (cI, 12, .inl (cSpr (cCur (z 21)) (F 26) (F 27) i)))).set 27 (ad 27, .inl (cI, 12, .inl (upd (cSpr (cCur (z 21)) (F 26) (F 27) i) (nI i).toNatClampNeg (1000 : Int32)))) = (ws.set 12 (am, .inr (9, mF ad (upd z 21 (cCur (z 21))) (wi + cWir (z 21) (F 26)) (dm + (cLost (z 21) - cWir (z 21) (F 26)))))).set 27 (ad 27, .inl (cI, 12, .inl (cSpr (cCur (z 21)) (F 26) (F 27) (i + 1)))) := by subst h27; have e9 := mV_eq (cCur (z 21)) (F 26) hlti; unfold mV4 mV3 mV2 mV1 at e9; simp only [c30, c54, c85, ↓reduceIte] at e9; rw [nI_clamp (show i < 2 ^ 31 by omega), List.set_set, ← cSpr_s, ← e9, jmin_b c135]
              have hP : va_P G vwCl (((ws.set 12 (am, .inr (9, mF ad (upd z 21 (cCur (z 21))) (wi + cWir (z 21) (F 26)) (dm + (cLost (z 21) - cWir (z 21) (F 26)))))).set 27 (ad 27, .inl (cI, 12, .inl (cSpr (cCur (z 21)) (F 26) (F 27) i)))).set 27 (ad 27, .inl (cI, 12, .inl (upd (cSpr (cCur (z 21)) (F 26) (F 27) i) (nI i).toNatClampNeg (1000 : Int32))))) H := hP
              have hD : va_D A (((ws.set 12 (am, .inr (9, mF ad (upd z 21 (cCur (z 21))) (wi + cWir (z 21) (F 26)) (dm + (cLost (z 21) - cWir (z 21) (F 26)))))).set 27 (ad 27, .inl (cI, 12, .inl (cSpr (cCur (z 21)) (F 26) (F 27) i)))).set 27 (ad 27, .inl (cI, 12, .inl (upd (cSpr (cCur (z 21)) (F 26) (F 27) i) (nI i).toNatClampNeg (1000 : Int32))))) := hD
              rw [ew] at hP hD
              exact ihi H _ ls hlti (trivial) hP hD hS (lv_sub hl [2, 0] rfl)
          · refine lv_aload_n hx hb dX8_pulseOfTime_88 rfl (lv_at hl 1 rfl) ?_
            refine va_get (D := G) (ci := 9) (v := .ref (ad 26)) (C := RX8) (T := TX8) (N := 39) hx hb hts hiX8 hown hK hP 12 hm rfl 19 (by decide) (hts (.fieldLink RX8 49 "VortexpinModel" "part" "[I") (List.mem_of_getElem? (i := 2) rfl)) (fun _ h9 => h9) rfl dX8_pulseOfTime_89 ?_
            refine lv_iload_n hx hb dX8_pulseOfTime_92 rfl (lv_at hl 2 rfl) ?_
            refine lv_iconst (v := 1) hx hb dX8_pulseOfTime_93 (by decide) ?_
            refine lv_iadd hx hb dX8_pulseOfTime_94 ?_
            refine va_iald hx hb hK hP 26 0 hA26 htI (by rw [nI_1]; exact vp_in_nI (by have := mt (nI_leI (a := 11) (b := i) (by omega) (by omega)).mpr c85; omega) (by omega)) dX8_pulseOfTime_95 ?_
            refine rd_i (j := i + 1) (by rw [nI_1]; exact nI_clamp (by omega)) ?_
            refine lv_aload_n hx hb dX8_pulseOfTime_96 rfl (lv_at hl 1 rfl) ?_
            refine va_get (D := G) (ci := 9) (v := .ref (ad 26)) (C := RX8) (T := TX8) (N := 39) hx hb hts hiX8 hown hK hP 12 hm rfl 19 (by decide) (hts (.fieldLink RX8 49 "VortexpinModel" "part" "[I") (List.mem_of_getElem? (i := 2) rfl)) (fun _ h9 => h9) rfl dX8_pulseOfTime_97 ?_
            refine lv_iload_n hx hb dX8_pulseOfTime_100 rfl (lv_at hl 2 rfl) ?_
            refine va_iald hx hb hK hP 26 0 hA26 htI (by first | exact vp_in_nI (by omega) (by omega) | assumption) dX8_pulseOfTime_101 ?_
            refine rd_i (j := i) (nI_clamp (by omega)) ?_
            refine lv_isub hx hb dX8_pulseOfTime_102 ?_
            refine lv_bipush (v := 8) hx hb dX8_pulseOfTime_103 (by decide) ?_
            refine lv_idiv hx hb dX8_pulseOfTime_105 (by decide) ?_
            refine lv_goto (tgt := 110) hx hb dX8_pulseOfTime_106 (by decide) ?_
            refine lv_iadd hx hb dX8_pulseOfTime_110 ?_
            refine lv_istore_n (lv' := [(2, .int (((((F 26) i) + (((cCur (z 21)) * (cCur (z 21))) / (2000 : Int32))) + (0 : Int32)) + ((((F 26) (i + 1)) - ((F 26) i)) / (8 : Int32)))), (0, .ref am), (1, .int (nI i))]) hx hb dX8_pulseOfTime_111 rfl hl (by decide) rfl (fun ls hl => ?_)
            refine lv_iload_n hx hb dX8_pulseOfTime_112 rfl (lv_at hl 0 rfl) ?_
            refine lv_aload_n hx hb dX8_pulseOfTime_113 rfl (lv_at hl 1 rfl) ?_
            refine va_get (D := G) (ci := 9) (v := .ref (ad 26)) (C := RX8) (T := TX8) (N := 39) hx hb hts hiX8 hown hK hP 12 hm rfl 19 (by decide) (hts (.fieldLink RX8 49 "VortexpinModel" "part" "[I") (List.mem_of_getElem? (i := 2) rfl)) (fun _ h9 => h9) rfl dX8_pulseOfTime_114 ?_
            refine lv_iload_n hx hb dX8_pulseOfTime_117 rfl (lv_at hl 2 rfl) ?_
            refine va_iald hx hb hK hP 26 0 hA26 htI (by first | exact vp_in_nI (by omega) (by omega) | assumption) dX8_pulseOfTime_118 ?_
            refine rd_i (j := i) (nI_clamp (by omega)) ?_
            refine lv_iconst (v := 4) hx hb dX8_pulseOfTime_119 (by decide) ?_
            refine lv_isub hx hb dX8_pulseOfTime_120 ?_
            refine lv_bipush (v := 16) hx hb dX8_pulseOfTime_121 (by decide) ?_
            refine lv_idiv hx hb dX8_pulseOfTime_123 (by decide) ?_
            refine lv_isub hx hb dX8_pulseOfTime_124 ?_
            refine lv_istore_n (lv' := [(2, .int ((((((F 26) i) + (((cCur (z 21)) * (cCur (z 21))) / (2000 : Int32))) + (0 : Int32)) + ((((F 26) (i + 1)) - ((F 26) i)) / (8 : Int32))) - ((((F 26) i) - (4 : Int32)) / (16 : Int32)))), (0, .ref am), (1, .int (nI i))]) hx hb dX8_pulseOfTime_125 rfl hl (by decide) rfl (fun ls hl => ?_)
            refine lv_aload_n hx hb dX8_pulseOfTime_126 rfl (lv_at hl 1 rfl) ?_
            refine va_get (D := G) (ci := 9) (v := .ref (ad 27)) (C := RX8) (T := TX8) (N := 39) hx hb hts hiX8 hown hK hP 12 hm rfl 20 (by decide) (hts (.fieldLink RX8 52 "VortexpinModel" "partThen" "[I") (List.mem_of_getElem? (i := 4) rfl)) (fun _ h9 => h9) rfl dX8_pulseOfTime_127 ?_
            refine lv_iload_n hx hb dX8_pulseOfTime_130 rfl (lv_at hl 2 rfl) ?_
            refine lv_iload_n hx hb dX8_pulseOfTime_131 rfl (lv_at hl 0 rfl) ?_
            refine lv_sipush (v := 1000) hx hb dX8_pulseOfTime_132 (by decide) ?_
            refine lv_icmp_le (tgt := 144) hx hb dX8_pulseOfTime_135 (by decide) (fun c135 => ?_) (fun c135 => ?_)
            · refine lv_iload_n hx hb dX8_pulseOfTime_144 rfl (lv_at hl 0 rfl) ?_
              refine va_iast hx hb hK hP hD hS 27 0 hA27 htI (by first | exact vp_in_nI (by omega) (by omega) | assumption) dX8_pulseOfTime_145 (fun H locs hP hD hS => ?_)
              have hm := va_gs (k := 27) (e := (ad 27, .inl (cI, 12, .inl (upd (cSpr (cCur (z 21)) (F 26) (F 27) i) (nI i).toNatClampNeg ((((((F 26) i) + (((cCur (z 21)) * (cCur (z 21))) / (2000 : Int32))) + (0 : Int32)) + ((((F 26) (i + 1)) - ((F 26) i)) / (8 : Int32))) - ((((F 26) i) - (4 : Int32)) / (16 : Int32))))))) (by decide) hm
              have hA26 := va_gs (k := 27) (e := (ad 27, .inl (cI, 12, .inl (upd (cSpr (cCur (z 21)) (F 26) (F 27) i) (nI i).toNatClampNeg ((((((F 26) i) + (((cCur (z 21)) * (cCur (z 21))) / (2000 : Int32))) + (0 : Int32)) + ((((F 26) (i + 1)) - ((F 26) i)) / (8 : Int32))) - ((((F 26) i) - (4 : Int32)) / (16 : Int32))))))) (by decide) hA26
              have hA27 := va_ge (e := (ad 27, .inl (cI, 12, .inl (upd (cSpr (cCur (z 21)) (F 26) (F 27) i) (nI i).toNatClampNeg ((((((F 26) i) + (((cCur (z 21)) * (cCur (z 21))) / (2000 : Int32))) + (0 : Int32)) + ((((F 26) (i + 1)) - ((F 26) i)) / (8 : Int32))) - ((((F 26) i) - (4 : Int32)) / (16 : Int32))))))) hA27
              refine lv_iinc (v := nI (i + 1)) (lv' := [(1, .int (nI (i + 1))), (2, .int ((((((F 26) i) + (((cCur (z 21)) * (cCur (z 21))) / (2000 : Int32))) + (0 : Int32)) + ((((F 26) (i + 1)) - ((F 26) i)) / (8 : Int32))) - ((((F 26) i) - (4 : Int32)) / (16 : Int32)))), (0, .ref am)]) hx hb dX8_pulseOfTime_146 hl (k := 2) rfl (nI_1 i) (by decide) rfl (fun ls hl => ?_)
              refine lv_goto (tgt := 13) hx hb dX8_pulseOfTime_149 (by decide) ?_
              have ew : ((ws.set 12 (am, .inr (9, mF ad (upd z 21 (cCur (z 21))) (wi + cWir (z 21) (F 26)) (dm + (cLost (z 21) - cWir (z 21) (F 26)))))).set 27 (ad 27, .inl (cI, 12, .inl (cSpr (cCur (z 21)) (F 26) (F 27) i)))).set 27 (ad 27, .inl (cI, 12, .inl (upd (cSpr (cCur (z 21)) (F 26) (F 27) i) (nI i).toNatClampNeg ((((((F 26) i) + (((cCur (z 21)) * (cCur (z 21))) / (2000 : Int32))) + (0 : Int32)) + ((((F 26) (i + 1)) - ((F 26) i)) / (8 : Int32))) - ((((F 26) i) - (4 : Int32)) / (16 : Int32)))))) = (ws.set 12 (am, .inr (9, mF ad (upd z 21 (cCur (z 21))) (wi + cWir (z 21) (F 26)) (dm + (cLost (z 21) - cWir (z 21) (F 26)))))).set 27 (ad 27, .inl (cI, 12, .inl (cSpr (cCur (z 21)) (F 26) (F 27) (i + 1)))) := by subst h27; have e9 := mV_eq (cCur (z 21)) (F 26) hlti; unfold mV4 mV3 mV2 mV1 at e9; simp only [c30, c54, c85, ↓reduceIte] at e9; rw [nI_clamp (show i < 2 ^ 31 by omega), List.set_set, ← cSpr_s, ← e9, jmin_a c135]
              have hP : va_P G vwCl (((ws.set 12 (am, .inr (9, mF ad (upd z 21 (cCur (z 21))) (wi + cWir (z 21) (F 26)) (dm + (cLost (z 21) - cWir (z 21) (F 26)))))).set 27 (ad 27, .inl (cI, 12, .inl (cSpr (cCur (z 21)) (F 26) (F 27) i)))).set 27 (ad 27, .inl (cI, 12, .inl (upd (cSpr (cCur (z 21)) (F 26) (F 27) i) (nI i).toNatClampNeg ((((((F 26) i) + (((cCur (z 21)) * (cCur (z 21))) / (2000 : Int32))) + (0 : Int32)) + ((((F 26) (i + 1)) - ((F 26) i)) / (8 : Int32))) - ((((F 26) i) - (4 : Int32)) / (16 : Int32))))))) H := hP
              have hD : va_D A (((ws.set 12 (am, .inr (9, mF ad (upd z 21 (cCur (z 21))) (wi + cWir (z 21) (F 26)) (dm + (cLost (z 21) - cWir (z 21) (F 26)))))).set 27 (ad 27, .inl (cI, 12, .inl (cSpr (cCur (z 21)) (F 26) (F 27) i)))).set 27 (ad 27, .inl (cI, 12, .inl (upd (cSpr (cCur (z 21)) (F 26) (F 27) i) (nI i).toNatClampNeg ((((((F 26) i) + (((cCur (z 21)) * (cCur (z 21))) / (2000 : Int32))) + (0 : Int32)) + ((((F 26) (i + 1)) - ((F 26) i)) / (8 : Int32))) - ((((F 26) i) - (4 : Int32)) / (16 : Int32))))))) := hD
              rw [ew] at hP hD
              exact ihi H _ ls hlti (trivial) hP hD hS (lv_sub hl [2, 0] rfl)
            · refine lv_sipush (v := 1000) hx hb dX8_pulseOfTime_138 (by decide) ?_
              refine lv_goto (tgt := 145) hx hb dX8_pulseOfTime_141 (by decide) ?_
              refine va_iast hx hb hK hP hD hS 27 0 hA27 htI (by first | exact vp_in_nI (by omega) (by omega) | assumption) dX8_pulseOfTime_145 (fun H locs hP hD hS => ?_)
              have hm := va_gs (k := 27) (e := (ad 27, .inl (cI, 12, .inl (upd (cSpr (cCur (z 21)) (F 26) (F 27) i) (nI i).toNatClampNeg (1000 : Int32))))) (by decide) hm
              have hA26 := va_gs (k := 27) (e := (ad 27, .inl (cI, 12, .inl (upd (cSpr (cCur (z 21)) (F 26) (F 27) i) (nI i).toNatClampNeg (1000 : Int32))))) (by decide) hA26
              have hA27 := va_ge (e := (ad 27, .inl (cI, 12, .inl (upd (cSpr (cCur (z 21)) (F 26) (F 27) i) (nI i).toNatClampNeg (1000 : Int32))))) hA27
              refine lv_iinc (v := nI (i + 1)) (lv' := [(1, .int (nI (i + 1))), (2, .int ((((((F 26) i) + (((cCur (z 21)) * (cCur (z 21))) / (2000 : Int32))) + (0 : Int32)) + ((((F 26) (i + 1)) - ((F 26) i)) / (8 : Int32))) - ((((F 26) i) - (4 : Int32)) / (16 : Int32)))), (0, .ref am)]) hx hb dX8_pulseOfTime_146 hl (k := 2) rfl (nI_1 i) (by decide) rfl (fun ls hl => ?_)
              refine lv_goto (tgt := 13) hx hb dX8_pulseOfTime_149 (by decide) ?_
              have ew : ((ws.set 12 (am, .inr (9, mF ad (upd z 21 (cCur (z 21))) (wi + cWir (z 21) (F 26)) (dm + (cLost (z 21) - cWir (z 21) (F 26)))))).set 27 (ad 27, .inl (cI, 12, .inl (cSpr (cCur (z 21)) (F 26) (F 27) i)))).set 27 (ad 27, .inl (cI, 12, .inl (upd (cSpr (cCur (z 21)) (F 26) (F 27) i) (nI i).toNatClampNeg (1000 : Int32)))) = (ws.set 12 (am, .inr (9, mF ad (upd z 21 (cCur (z 21))) (wi + cWir (z 21) (F 26)) (dm + (cLost (z 21) - cWir (z 21) (F 26)))))).set 27 (ad 27, .inl (cI, 12, .inl (cSpr (cCur (z 21)) (F 26) (F 27) (i + 1)))) := by subst h27; have e9 := mV_eq (cCur (z 21)) (F 26) hlti; unfold mV4 mV3 mV2 mV1 at e9; simp only [c30, c54, c85, ↓reduceIte] at e9; rw [nI_clamp (show i < 2 ^ 31 by omega), List.set_set, ← cSpr_s, ← e9, jmin_b c135]
              have hP : va_P G vwCl (((ws.set 12 (am, .inr (9, mF ad (upd z 21 (cCur (z 21))) (wi + cWir (z 21) (F 26)) (dm + (cLost (z 21) - cWir (z 21) (F 26)))))).set 27 (ad 27, .inl (cI, 12, .inl (cSpr (cCur (z 21)) (F 26) (F 27) i)))).set 27 (ad 27, .inl (cI, 12, .inl (upd (cSpr (cCur (z 21)) (F 26) (F 27) i) (nI i).toNatClampNeg (1000 : Int32))))) H := hP
              have hD : va_D A (((ws.set 12 (am, .inr (9, mF ad (upd z 21 (cCur (z 21))) (wi + cWir (z 21) (F 26)) (dm + (cLost (z 21) - cWir (z 21) (F 26)))))).set 27 (ad 27, .inl (cI, 12, .inl (cSpr (cCur (z 21)) (F 26) (F 27) i)))).set 27 (ad 27, .inl (cI, 12, .inl (upd (cSpr (cCur (z 21)) (F 26) (F 27) i) (nI i).toNatClampNeg (1000 : Int32))))) := hD
              rw [ew] at hP hD
              exact ihi H _ ls hlti (trivial) hP hD hS (lv_sub hl [2, 0] rfl)
        · refine lv_aload_n hx hb dX8_pulseOfTime_57 rfl (lv_at hl 1 rfl) ?_
          refine va_get (D := G) (ci := 9) (v := .ref (ad 26)) (C := RX8) (T := TX8) (N := 39) hx hb hts hiX8 hown hK hP 12 hm rfl 19 (by decide) (hts (.fieldLink RX8 49 "VortexpinModel" "part" "[I") (List.mem_of_getElem? (i := 2) rfl)) (fun _ h9 => h9) rfl dX8_pulseOfTime_58 ?_
          refine lv_iload_n hx hb dX8_pulseOfTime_61 rfl (lv_at hl 2 rfl) ?_
          refine lv_iconst (v := 1) hx hb dX8_pulseOfTime_62 (by decide) ?_
          refine lv_isub hx hb dX8_pulseOfTime_63 ?_
          refine va_iald hx hb hK hP 26 0 hA26 htI (by rw [nI_m1' (nI_pos0 c54)]; exact vp_in_nI (by omega) (by omega)) dX8_pulseOfTime_64 ?_
          refine rd_i (j := i - 1) (by rw [nI_m1' (nI_pos0 c54)]; exact nI_clamp (by omega)) ?_
          refine lv_aload_n hx hb dX8_pulseOfTime_65 rfl (lv_at hl 1 rfl) ?_
          refine va_get (D := G) (ci := 9) (v := .ref (ad 26)) (C := RX8) (T := TX8) (N := 39) hx hb hts hiX8 hown hK hP 12 hm rfl 19 (by decide) (hts (.fieldLink RX8 49 "VortexpinModel" "part" "[I") (List.mem_of_getElem? (i := 2) rfl)) (fun _ h9 => h9) rfl dX8_pulseOfTime_66 ?_
          refine lv_iload_n hx hb dX8_pulseOfTime_69 rfl (lv_at hl 2 rfl) ?_
          refine va_iald hx hb hK hP 26 0 hA26 htI (by first | exact vp_in_nI (by omega) (by omega) | assumption) dX8_pulseOfTime_70 ?_
          refine rd_i (j := i) (nI_clamp (by omega)) ?_
          refine lv_isub hx hb dX8_pulseOfTime_71 ?_
          refine lv_bipush (v := 8) hx hb dX8_pulseOfTime_72 (by decide) ?_
          refine lv_idiv hx hb dX8_pulseOfTime_74 (by decide) ?_
          refine lv_goto (tgt := 79) hx hb dX8_pulseOfTime_75 (by decide) ?_
          refine lv_iadd hx hb dX8_pulseOfTime_79 ?_
          refine lv_istore_n (lv' := [(2, .int ((((F 26) i) + (((cCur (z 21)) * (cCur (z 21))) / (2000 : Int32))) + ((((F 26) (i - 1)) - ((F 26) i)) / (8 : Int32)))), (0, .ref am), (1, .int (nI i))]) hx hb dX8_pulseOfTime_80 rfl hl (by decide) rfl (fun ls hl => ?_)
          refine lv_iload_n hx hb dX8_pulseOfTime_81 rfl (lv_at hl 0 rfl) ?_
          refine lv_iload_n hx hb dX8_pulseOfTime_82 rfl (lv_at hl 2 rfl) ?_
          refine lv_bipush (v := 11) hx hb dX8_pulseOfTime_83 (by decide) ?_
          refine lv_icmp_ge (tgt := 109) hx hb dX8_pulseOfTime_85 (by decide) (fun c85 => ?_) (fun c85 => ?_)
          · refine lv_iconst (v := 0) hx hb dX8_pulseOfTime_109 (by decide) ?_
            refine lv_iadd hx hb dX8_pulseOfTime_110 ?_
            refine lv_istore_n (lv' := [(2, .int (((((F 26) i) + (((cCur (z 21)) * (cCur (z 21))) / (2000 : Int32))) + ((((F 26) (i - 1)) - ((F 26) i)) / (8 : Int32))) + (0 : Int32))), (0, .ref am), (1, .int (nI i))]) hx hb dX8_pulseOfTime_111 rfl hl (by decide) rfl (fun ls hl => ?_)
            refine lv_iload_n hx hb dX8_pulseOfTime_112 rfl (lv_at hl 0 rfl) ?_
            refine lv_aload_n hx hb dX8_pulseOfTime_113 rfl (lv_at hl 1 rfl) ?_
            refine va_get (D := G) (ci := 9) (v := .ref (ad 26)) (C := RX8) (T := TX8) (N := 39) hx hb hts hiX8 hown hK hP 12 hm rfl 19 (by decide) (hts (.fieldLink RX8 49 "VortexpinModel" "part" "[I") (List.mem_of_getElem? (i := 2) rfl)) (fun _ h9 => h9) rfl dX8_pulseOfTime_114 ?_
            refine lv_iload_n hx hb dX8_pulseOfTime_117 rfl (lv_at hl 2 rfl) ?_
            refine va_iald hx hb hK hP 26 0 hA26 htI (by first | exact vp_in_nI (by omega) (by omega) | assumption) dX8_pulseOfTime_118 ?_
            refine rd_i (j := i) (nI_clamp (by omega)) ?_
            refine lv_iconst (v := 4) hx hb dX8_pulseOfTime_119 (by decide) ?_
            refine lv_isub hx hb dX8_pulseOfTime_120 ?_
            refine lv_bipush (v := 16) hx hb dX8_pulseOfTime_121 (by decide) ?_
            refine lv_idiv hx hb dX8_pulseOfTime_123 (by decide) ?_
            refine lv_isub hx hb dX8_pulseOfTime_124 ?_
            refine lv_istore_n (lv' := [(2, .int ((((((F 26) i) + (((cCur (z 21)) * (cCur (z 21))) / (2000 : Int32))) + ((((F 26) (i - 1)) - ((F 26) i)) / (8 : Int32))) + (0 : Int32)) - ((((F 26) i) - (4 : Int32)) / (16 : Int32)))), (0, .ref am), (1, .int (nI i))]) hx hb dX8_pulseOfTime_125 rfl hl (by decide) rfl (fun ls hl => ?_)
            refine lv_aload_n hx hb dX8_pulseOfTime_126 rfl (lv_at hl 1 rfl) ?_
            refine va_get (D := G) (ci := 9) (v := .ref (ad 27)) (C := RX8) (T := TX8) (N := 39) hx hb hts hiX8 hown hK hP 12 hm rfl 20 (by decide) (hts (.fieldLink RX8 52 "VortexpinModel" "partThen" "[I") (List.mem_of_getElem? (i := 4) rfl)) (fun _ h9 => h9) rfl dX8_pulseOfTime_127 ?_
            refine lv_iload_n hx hb dX8_pulseOfTime_130 rfl (lv_at hl 2 rfl) ?_
            refine lv_iload_n hx hb dX8_pulseOfTime_131 rfl (lv_at hl 0 rfl) ?_
            refine lv_sipush (v := 1000) hx hb dX8_pulseOfTime_132 (by decide) ?_
            refine lv_icmp_le (tgt := 144) hx hb dX8_pulseOfTime_135 (by decide) (fun c135 => ?_) (fun c135 => ?_)
            · refine lv_iload_n hx hb dX8_pulseOfTime_144 rfl (lv_at hl 0 rfl) ?_
              refine va_iast hx hb hK hP hD hS 27 0 hA27 htI (by first | exact vp_in_nI (by omega) (by omega) | assumption) dX8_pulseOfTime_145 (fun H locs hP hD hS => ?_)
              have hm := va_gs (k := 27) (e := (ad 27, .inl (cI, 12, .inl (upd (cSpr (cCur (z 21)) (F 26) (F 27) i) (nI i).toNatClampNeg ((((((F 26) i) + (((cCur (z 21)) * (cCur (z 21))) / (2000 : Int32))) + ((((F 26) (i - 1)) - ((F 26) i)) / (8 : Int32))) + (0 : Int32)) - ((((F 26) i) - (4 : Int32)) / (16 : Int32))))))) (by decide) hm
              have hA26 := va_gs (k := 27) (e := (ad 27, .inl (cI, 12, .inl (upd (cSpr (cCur (z 21)) (F 26) (F 27) i) (nI i).toNatClampNeg ((((((F 26) i) + (((cCur (z 21)) * (cCur (z 21))) / (2000 : Int32))) + ((((F 26) (i - 1)) - ((F 26) i)) / (8 : Int32))) + (0 : Int32)) - ((((F 26) i) - (4 : Int32)) / (16 : Int32))))))) (by decide) hA26
              have hA27 := va_ge (e := (ad 27, .inl (cI, 12, .inl (upd (cSpr (cCur (z 21)) (F 26) (F 27) i) (nI i).toNatClampNeg ((((((F 26) i) + (((cCur (z 21)) * (cCur (z 21))) / (2000 : Int32))) + ((((F 26) (i - 1)) - ((F 26) i)) / (8 : Int32))) + (0 : Int32)) - ((((F 26) i) - (4 : Int32)) / (16 : Int32))))))) hA27
              refine lv_iinc (v := nI (i + 1)) (lv' := [(1, .int (nI (i + 1))), (2, .int ((((((F 26) i) + (((cCur (z 21)) * (cCur (z 21))) / (2000 : Int32))) + ((((F 26) (i - 1)) - ((F 26) i)) / (8 : Int32))) + (0 : Int32)) - ((((F 26) i) - (4 : Int32)) / (16 : Int32)))), (0, .ref am)]) hx hb dX8_pulseOfTime_146 hl (k := 2) rfl (nI_1 i) (by decide) rfl (fun ls hl => ?_)
              refine lv_goto (tgt := 13) hx hb dX8_pulseOfTime_149 (by decide) ?_
              have ew : ((ws.set 12 (am, .inr (9, mF ad (upd z 21 (cCur (z 21))) (wi + cWir (z 21) (F 26)) (dm + (cLost (z 21) - cWir (z 21) (F 26)))))).set 27 (ad 27, .inl (cI, 12, .inl (cSpr (cCur (z 21)) (F 26) (F 27) i)))).set 27 (ad 27, .inl (cI, 12, .inl (upd (cSpr (cCur (z 21)) (F 26) (F 27) i) (nI i).toNatClampNeg ((((((F 26) i) + (((cCur (z 21)) * (cCur (z 21))) / (2000 : Int32))) + ((((F 26) (i - 1)) - ((F 26) i)) / (8 : Int32))) + (0 : Int32)) - ((((F 26) i) - (4 : Int32)) / (16 : Int32)))))) = (ws.set 12 (am, .inr (9, mF ad (upd z 21 (cCur (z 21))) (wi + cWir (z 21) (F 26)) (dm + (cLost (z 21) - cWir (z 21) (F 26)))))).set 27 (ad 27, .inl (cI, 12, .inl (cSpr (cCur (z 21)) (F 26) (F 27) (i + 1)))) := by subst h27; have e9 := mV_eq (cCur (z 21)) (F 26) hlti; unfold mV4 mV3 mV2 mV1 at e9; simp only [c30, c54, c85, ↓reduceIte] at e9; rw [nI_clamp (show i < 2 ^ 31 by omega), List.set_set, ← cSpr_s, ← e9, jmin_a c135]
              have hP : va_P G vwCl (((ws.set 12 (am, .inr (9, mF ad (upd z 21 (cCur (z 21))) (wi + cWir (z 21) (F 26)) (dm + (cLost (z 21) - cWir (z 21) (F 26)))))).set 27 (ad 27, .inl (cI, 12, .inl (cSpr (cCur (z 21)) (F 26) (F 27) i)))).set 27 (ad 27, .inl (cI, 12, .inl (upd (cSpr (cCur (z 21)) (F 26) (F 27) i) (nI i).toNatClampNeg ((((((F 26) i) + (((cCur (z 21)) * (cCur (z 21))) / (2000 : Int32))) + ((((F 26) (i - 1)) - ((F 26) i)) / (8 : Int32))) + (0 : Int32)) - ((((F 26) i) - (4 : Int32)) / (16 : Int32))))))) H := hP
              have hD : va_D A (((ws.set 12 (am, .inr (9, mF ad (upd z 21 (cCur (z 21))) (wi + cWir (z 21) (F 26)) (dm + (cLost (z 21) - cWir (z 21) (F 26)))))).set 27 (ad 27, .inl (cI, 12, .inl (cSpr (cCur (z 21)) (F 26) (F 27) i)))).set 27 (ad 27, .inl (cI, 12, .inl (upd (cSpr (cCur (z 21)) (F 26) (F 27) i) (nI i).toNatClampNeg ((((((F 26) i) + (((cCur (z 21)) * (cCur (z 21))) / (2000 : Int32))) + ((((F 26) (i - 1)) - ((F 26) i)) / (8 : Int32))) + (0 : Int32)) - ((((F 26) i) - (4 : Int32)) / (16 : Int32))))))) := hD
              rw [ew] at hP hD
              exact ihi H _ ls hlti (trivial) hP hD hS (lv_sub hl [2, 0] rfl)
            · refine lv_sipush (v := 1000) hx hb dX8_pulseOfTime_138 (by decide) ?_
              refine lv_goto (tgt := 145) hx hb dX8_pulseOfTime_141 (by decide) ?_
              refine va_iast hx hb hK hP hD hS 27 0 hA27 htI (by first | exact vp_in_nI (by omega) (by omega) | assumption) dX8_pulseOfTime_145 (fun H locs hP hD hS => ?_)
              have hm := va_gs (k := 27) (e := (ad 27, .inl (cI, 12, .inl (upd (cSpr (cCur (z 21)) (F 26) (F 27) i) (nI i).toNatClampNeg (1000 : Int32))))) (by decide) hm
              have hA26 := va_gs (k := 27) (e := (ad 27, .inl (cI, 12, .inl (upd (cSpr (cCur (z 21)) (F 26) (F 27) i) (nI i).toNatClampNeg (1000 : Int32))))) (by decide) hA26
              have hA27 := va_ge (e := (ad 27, .inl (cI, 12, .inl (upd (cSpr (cCur (z 21)) (F 26) (F 27) i) (nI i).toNatClampNeg (1000 : Int32))))) hA27
              refine lv_iinc (v := nI (i + 1)) (lv' := [(1, .int (nI (i + 1))), (2, .int ((((((F 26) i) + (((cCur (z 21)) * (cCur (z 21))) / (2000 : Int32))) + ((((F 26) (i - 1)) - ((F 26) i)) / (8 : Int32))) + (0 : Int32)) - ((((F 26) i) - (4 : Int32)) / (16 : Int32)))), (0, .ref am)]) hx hb dX8_pulseOfTime_146 hl (k := 2) rfl (nI_1 i) (by decide) rfl (fun ls hl => ?_)
              refine lv_goto (tgt := 13) hx hb dX8_pulseOfTime_149 (by decide) ?_
              have ew : ((ws.set 12 (am, .inr (9, mF ad (upd z 21 (cCur (z 21))) (wi + cWir (z 21) (F 26)) (dm + (cLost (z 21) - cWir (z 21) (F 26)))))).set 27 (ad 27, .inl (cI, 12, .inl (cSpr (cCur (z 21)) (F 26) (F 27) i)))).set 27 (ad 27, .inl (cI, 12, .inl (upd (cSpr (cCur (z 21)) (F 26) (F 27) i) (nI i).toNatClampNeg (1000 : Int32)))) = (ws.set 12 (am, .inr (9, mF ad (upd z 21 (cCur (z 21))) (wi + cWir (z 21) (F 26)) (dm + (cLost (z 21) - cWir (z 21) (F 26)))))).set 27 (ad 27, .inl (cI, 12, .inl (cSpr (cCur (z 21)) (F 26) (F 27) (i + 1)))) := by subst h27; have e9 := mV_eq (cCur (z 21)) (F 26) hlti; unfold mV4 mV3 mV2 mV1 at e9; simp only [c30, c54, c85, ↓reduceIte] at e9; rw [nI_clamp (show i < 2 ^ 31 by omega), List.set_set, ← cSpr_s, ← e9, jmin_b c135]
              have hP : va_P G vwCl (((ws.set 12 (am, .inr (9, mF ad (upd z 21 (cCur (z 21))) (wi + cWir (z 21) (F 26)) (dm + (cLost (z 21) - cWir (z 21) (F 26)))))).set 27 (ad 27, .inl (cI, 12, .inl (cSpr (cCur (z 21)) (F 26) (F 27) i)))).set 27 (ad 27, .inl (cI, 12, .inl (upd (cSpr (cCur (z 21)) (F 26) (F 27) i) (nI i).toNatClampNeg (1000 : Int32))))) H := hP
              have hD : va_D A (((ws.set 12 (am, .inr (9, mF ad (upd z 21 (cCur (z 21))) (wi + cWir (z 21) (F 26)) (dm + (cLost (z 21) - cWir (z 21) (F 26)))))).set 27 (ad 27, .inl (cI, 12, .inl (cSpr (cCur (z 21)) (F 26) (F 27) i)))).set 27 (ad 27, .inl (cI, 12, .inl (upd (cSpr (cCur (z 21)) (F 26) (F 27) i) (nI i).toNatClampNeg (1000 : Int32))))) := hD
              rw [ew] at hP hD
              exact ihi H _ ls hlti (trivial) hP hD hS (lv_sub hl [2, 0] rfl)
          · refine lv_aload_n hx hb dX8_pulseOfTime_88 rfl (lv_at hl 1 rfl) ?_
            refine va_get (D := G) (ci := 9) (v := .ref (ad 26)) (C := RX8) (T := TX8) (N := 39) hx hb hts hiX8 hown hK hP 12 hm rfl 19 (by decide) (hts (.fieldLink RX8 49 "VortexpinModel" "part" "[I") (List.mem_of_getElem? (i := 2) rfl)) (fun _ h9 => h9) rfl dX8_pulseOfTime_89 ?_
            refine lv_iload_n hx hb dX8_pulseOfTime_92 rfl (lv_at hl 2 rfl) ?_
            refine lv_iconst (v := 1) hx hb dX8_pulseOfTime_93 (by decide) ?_
            refine lv_iadd hx hb dX8_pulseOfTime_94 ?_
            refine va_iald hx hb hK hP 26 0 hA26 htI (by rw [nI_1]; exact vp_in_nI (by have := mt (nI_leI (a := 11) (b := i) (by omega) (by omega)).mpr c85; omega) (by omega)) dX8_pulseOfTime_95 ?_
            refine rd_i (j := i + 1) (by rw [nI_1]; exact nI_clamp (by omega)) ?_
            refine lv_aload_n hx hb dX8_pulseOfTime_96 rfl (lv_at hl 1 rfl) ?_
            refine va_get (D := G) (ci := 9) (v := .ref (ad 26)) (C := RX8) (T := TX8) (N := 39) hx hb hts hiX8 hown hK hP 12 hm rfl 19 (by decide) (hts (.fieldLink RX8 49 "VortexpinModel" "part" "[I") (List.mem_of_getElem? (i := 2) rfl)) (fun _ h9 => h9) rfl dX8_pulseOfTime_97 ?_
            refine lv_iload_n hx hb dX8_pulseOfTime_100 rfl (lv_at hl 2 rfl) ?_
            refine va_iald hx hb hK hP 26 0 hA26 htI (by first | exact vp_in_nI (by omega) (by omega) | assumption) dX8_pulseOfTime_101 ?_
            refine rd_i (j := i) (nI_clamp (by omega)) ?_
            refine lv_isub hx hb dX8_pulseOfTime_102 ?_
            refine lv_bipush (v := 8) hx hb dX8_pulseOfTime_103 (by decide) ?_
            refine lv_idiv hx hb dX8_pulseOfTime_105 (by decide) ?_
            refine lv_goto (tgt := 110) hx hb dX8_pulseOfTime_106 (by decide) ?_
            refine lv_iadd hx hb dX8_pulseOfTime_110 ?_
            refine lv_istore_n (lv' := [(2, .int (((((F 26) i) + (((cCur (z 21)) * (cCur (z 21))) / (2000 : Int32))) + ((((F 26) (i - 1)) - ((F 26) i)) / (8 : Int32))) + ((((F 26) (i + 1)) - ((F 26) i)) / (8 : Int32)))), (0, .ref am), (1, .int (nI i))]) hx hb dX8_pulseOfTime_111 rfl hl (by decide) rfl (fun ls hl => ?_)
            refine lv_iload_n hx hb dX8_pulseOfTime_112 rfl (lv_at hl 0 rfl) ?_
            refine lv_aload_n hx hb dX8_pulseOfTime_113 rfl (lv_at hl 1 rfl) ?_
            refine va_get (D := G) (ci := 9) (v := .ref (ad 26)) (C := RX8) (T := TX8) (N := 39) hx hb hts hiX8 hown hK hP 12 hm rfl 19 (by decide) (hts (.fieldLink RX8 49 "VortexpinModel" "part" "[I") (List.mem_of_getElem? (i := 2) rfl)) (fun _ h9 => h9) rfl dX8_pulseOfTime_114 ?_
            refine lv_iload_n hx hb dX8_pulseOfTime_117 rfl (lv_at hl 2 rfl) ?_
            refine va_iald hx hb hK hP 26 0 hA26 htI (by first | exact vp_in_nI (by omega) (by omega) | assumption) dX8_pulseOfTime_118 ?_
            refine rd_i (j := i) (nI_clamp (by omega)) ?_
            refine lv_iconst (v := 4) hx hb dX8_pulseOfTime_119 (by decide) ?_
            refine lv_isub hx hb dX8_pulseOfTime_120 ?_
            refine lv_bipush (v := 16) hx hb dX8_pulseOfTime_121 (by decide) ?_
            refine lv_idiv hx hb dX8_pulseOfTime_123 (by decide) ?_
            refine lv_isub hx hb dX8_pulseOfTime_124 ?_
            refine lv_istore_n (lv' := [(2, .int ((((((F 26) i) + (((cCur (z 21)) * (cCur (z 21))) / (2000 : Int32))) + ((((F 26) (i - 1)) - ((F 26) i)) / (8 : Int32))) + ((((F 26) (i + 1)) - ((F 26) i)) / (8 : Int32))) - ((((F 26) i) - (4 : Int32)) / (16 : Int32)))), (0, .ref am), (1, .int (nI i))]) hx hb dX8_pulseOfTime_125 rfl hl (by decide) rfl (fun ls hl => ?_)
            refine lv_aload_n hx hb dX8_pulseOfTime_126 rfl (lv_at hl 1 rfl) ?_
            refine va_get (D := G) (ci := 9) (v := .ref (ad 27)) (C := RX8) (T := TX8) (N := 39) hx hb hts hiX8 hown hK hP 12 hm rfl 20 (by decide) (hts (.fieldLink RX8 52 "VortexpinModel" "partThen" "[I") (List.mem_of_getElem? (i := 4) rfl)) (fun _ h9 => h9) rfl dX8_pulseOfTime_127 ?_
            refine lv_iload_n hx hb dX8_pulseOfTime_130 rfl (lv_at hl 2 rfl) ?_
            refine lv_iload_n hx hb dX8_pulseOfTime_131 rfl (lv_at hl 0 rfl) ?_
            refine lv_sipush (v := 1000) hx hb dX8_pulseOfTime_132 (by decide) ?_
            refine lv_icmp_le (tgt := 144) hx hb dX8_pulseOfTime_135 (by decide) (fun c135 => ?_) (fun c135 => ?_)
            · refine lv_iload_n hx hb dX8_pulseOfTime_144 rfl (lv_at hl 0 rfl) ?_
              refine va_iast hx hb hK hP hD hS 27 0 hA27 htI (by first | exact vp_in_nI (by omega) (by omega) | assumption) dX8_pulseOfTime_145 (fun H locs hP hD hS => ?_)
              have hm := va_gs (k := 27) (e := (ad 27, .inl (cI, 12, .inl (upd (cSpr (cCur (z 21)) (F 26) (F 27) i) (nI i).toNatClampNeg ((((((F 26) i) + (((cCur (z 21)) * (cCur (z 21))) / (2000 : Int32))) + ((((F 26) (i - 1)) - ((F 26) i)) / (8 : Int32))) + ((((F 26) (i + 1)) - ((F 26) i)) / (8 : Int32))) - ((((F 26) i) - (4 : Int32)) / (16 : Int32))))))) (by decide) hm
              have hA26 := va_gs (k := 27) (e := (ad 27, .inl (cI, 12, .inl (upd (cSpr (cCur (z 21)) (F 26) (F 27) i) (nI i).toNatClampNeg ((((((F 26) i) + (((cCur (z 21)) * (cCur (z 21))) / (2000 : Int32))) + ((((F 26) (i - 1)) - ((F 26) i)) / (8 : Int32))) + ((((F 26) (i + 1)) - ((F 26) i)) / (8 : Int32))) - ((((F 26) i) - (4 : Int32)) / (16 : Int32))))))) (by decide) hA26
              have hA27 := va_ge (e := (ad 27, .inl (cI, 12, .inl (upd (cSpr (cCur (z 21)) (F 26) (F 27) i) (nI i).toNatClampNeg ((((((F 26) i) + (((cCur (z 21)) * (cCur (z 21))) / (2000 : Int32))) + ((((F 26) (i - 1)) - ((F 26) i)) / (8 : Int32))) + ((((F 26) (i + 1)) - ((F 26) i)) / (8 : Int32))) - ((((F 26) i) - (4 : Int32)) / (16 : Int32))))))) hA27
              refine lv_iinc (v := nI (i + 1)) (lv' := [(1, .int (nI (i + 1))), (2, .int ((((((F 26) i) + (((cCur (z 21)) * (cCur (z 21))) / (2000 : Int32))) + ((((F 26) (i - 1)) - ((F 26) i)) / (8 : Int32))) + ((((F 26) (i + 1)) - ((F 26) i)) / (8 : Int32))) - ((((F 26) i) - (4 : Int32)) / (16 : Int32)))), (0, .ref am)]) hx hb dX8_pulseOfTime_146 hl (k := 2) rfl (nI_1 i) (by decide) rfl (fun ls hl => ?_)
              refine lv_goto (tgt := 13) hx hb dX8_pulseOfTime_149 (by decide) ?_
              have ew : ((ws.set 12 (am, .inr (9, mF ad (upd z 21 (cCur (z 21))) (wi + cWir (z 21) (F 26)) (dm + (cLost (z 21) - cWir (z 21) (F 26)))))).set 27 (ad 27, .inl (cI, 12, .inl (cSpr (cCur (z 21)) (F 26) (F 27) i)))).set 27 (ad 27, .inl (cI, 12, .inl (upd (cSpr (cCur (z 21)) (F 26) (F 27) i) (nI i).toNatClampNeg ((((((F 26) i) + (((cCur (z 21)) * (cCur (z 21))) / (2000 : Int32))) + ((((F 26) (i - 1)) - ((F 26) i)) / (8 : Int32))) + ((((F 26) (i + 1)) - ((F 26) i)) / (8 : Int32))) - ((((F 26) i) - (4 : Int32)) / (16 : Int32)))))) = (ws.set 12 (am, .inr (9, mF ad (upd z 21 (cCur (z 21))) (wi + cWir (z 21) (F 26)) (dm + (cLost (z 21) - cWir (z 21) (F 26)))))).set 27 (ad 27, .inl (cI, 12, .inl (cSpr (cCur (z 21)) (F 26) (F 27) (i + 1)))) := by subst h27; have e9 := mV_eq (cCur (z 21)) (F 26) hlti; unfold mV4 mV3 mV2 mV1 at e9; simp only [c30, c54, c85, ↓reduceIte] at e9; rw [nI_clamp (show i < 2 ^ 31 by omega), List.set_set, ← cSpr_s, ← e9, jmin_a c135]
              have hP : va_P G vwCl (((ws.set 12 (am, .inr (9, mF ad (upd z 21 (cCur (z 21))) (wi + cWir (z 21) (F 26)) (dm + (cLost (z 21) - cWir (z 21) (F 26)))))).set 27 (ad 27, .inl (cI, 12, .inl (cSpr (cCur (z 21)) (F 26) (F 27) i)))).set 27 (ad 27, .inl (cI, 12, .inl (upd (cSpr (cCur (z 21)) (F 26) (F 27) i) (nI i).toNatClampNeg ((((((F 26) i) + (((cCur (z 21)) * (cCur (z 21))) / (2000 : Int32))) + ((((F 26) (i - 1)) - ((F 26) i)) / (8 : Int32))) + ((((F 26) (i + 1)) - ((F 26) i)) / (8 : Int32))) - ((((F 26) i) - (4 : Int32)) / (16 : Int32))))))) H := hP
              have hD : va_D A (((ws.set 12 (am, .inr (9, mF ad (upd z 21 (cCur (z 21))) (wi + cWir (z 21) (F 26)) (dm + (cLost (z 21) - cWir (z 21) (F 26)))))).set 27 (ad 27, .inl (cI, 12, .inl (cSpr (cCur (z 21)) (F 26) (F 27) i)))).set 27 (ad 27, .inl (cI, 12, .inl (upd (cSpr (cCur (z 21)) (F 26) (F 27) i) (nI i).toNatClampNeg ((((((F 26) i) + (((cCur (z 21)) * (cCur (z 21))) / (2000 : Int32))) + ((((F 26) (i - 1)) - ((F 26) i)) / (8 : Int32))) + ((((F 26) (i + 1)) - ((F 26) i)) / (8 : Int32))) - ((((F 26) i) - (4 : Int32)) / (16 : Int32))))))) := hD
              rw [ew] at hP hD
              exact ihi H _ ls hlti (trivial) hP hD hS (lv_sub hl [2, 0] rfl)
            · refine lv_sipush (v := 1000) hx hb dX8_pulseOfTime_138 (by decide) ?_
              refine lv_goto (tgt := 145) hx hb dX8_pulseOfTime_141 (by decide) ?_
              refine va_iast hx hb hK hP hD hS 27 0 hA27 htI (by first | exact vp_in_nI (by omega) (by omega) | assumption) dX8_pulseOfTime_145 (fun H locs hP hD hS => ?_)
              have hm := va_gs (k := 27) (e := (ad 27, .inl (cI, 12, .inl (upd (cSpr (cCur (z 21)) (F 26) (F 27) i) (nI i).toNatClampNeg (1000 : Int32))))) (by decide) hm
              have hA26 := va_gs (k := 27) (e := (ad 27, .inl (cI, 12, .inl (upd (cSpr (cCur (z 21)) (F 26) (F 27) i) (nI i).toNatClampNeg (1000 : Int32))))) (by decide) hA26
              have hA27 := va_ge (e := (ad 27, .inl (cI, 12, .inl (upd (cSpr (cCur (z 21)) (F 26) (F 27) i) (nI i).toNatClampNeg (1000 : Int32))))) hA27
              refine lv_iinc (v := nI (i + 1)) (lv' := [(1, .int (nI (i + 1))), (2, .int ((((((F 26) i) + (((cCur (z 21)) * (cCur (z 21))) / (2000 : Int32))) + ((((F 26) (i - 1)) - ((F 26) i)) / (8 : Int32))) + ((((F 26) (i + 1)) - ((F 26) i)) / (8 : Int32))) - ((((F 26) i) - (4 : Int32)) / (16 : Int32)))), (0, .ref am)]) hx hb dX8_pulseOfTime_146 hl (k := 2) rfl (nI_1 i) (by decide) rfl (fun ls hl => ?_)
              refine lv_goto (tgt := 13) hx hb dX8_pulseOfTime_149 (by decide) ?_
              have ew : ((ws.set 12 (am, .inr (9, mF ad (upd z 21 (cCur (z 21))) (wi + cWir (z 21) (F 26)) (dm + (cLost (z 21) - cWir (z 21) (F 26)))))).set 27 (ad 27, .inl (cI, 12, .inl (cSpr (cCur (z 21)) (F 26) (F 27) i)))).set 27 (ad 27, .inl (cI, 12, .inl (upd (cSpr (cCur (z 21)) (F 26) (F 27) i) (nI i).toNatClampNeg (1000 : Int32)))) = (ws.set 12 (am, .inr (9, mF ad (upd z 21 (cCur (z 21))) (wi + cWir (z 21) (F 26)) (dm + (cLost (z 21) - cWir (z 21) (F 26)))))).set 27 (ad 27, .inl (cI, 12, .inl (cSpr (cCur (z 21)) (F 26) (F 27) (i + 1)))) := by subst h27; have e9 := mV_eq (cCur (z 21)) (F 26) hlti; unfold mV4 mV3 mV2 mV1 at e9; simp only [c30, c54, c85, ↓reduceIte] at e9; rw [nI_clamp (show i < 2 ^ 31 by omega), List.set_set, ← cSpr_s, ← e9, jmin_b c135]
              have hP : va_P G vwCl (((ws.set 12 (am, .inr (9, mF ad (upd z 21 (cCur (z 21))) (wi + cWir (z 21) (F 26)) (dm + (cLost (z 21) - cWir (z 21) (F 26)))))).set 27 (ad 27, .inl (cI, 12, .inl (cSpr (cCur (z 21)) (F 26) (F 27) i)))).set 27 (ad 27, .inl (cI, 12, .inl (upd (cSpr (cCur (z 21)) (F 26) (F 27) i) (nI i).toNatClampNeg (1000 : Int32))))) H := hP
              have hD : va_D A (((ws.set 12 (am, .inr (9, mF ad (upd z 21 (cCur (z 21))) (wi + cWir (z 21) (F 26)) (dm + (cLost (z 21) - cWir (z 21) (F 26)))))).set 27 (ad 27, .inl (cI, 12, .inl (cSpr (cCur (z 21)) (F 26) (F 27) i)))).set 27 (ad 27, .inl (cI, 12, .inl (upd (cSpr (cCur (z 21)) (F 26) (F 27) i) (nI i).toNatClampNeg (1000 : Int32))))) := hD
              rw [ew] at hP hD
              exact ihi H _ ls hlti (trivial) hP hD hS (lv_sub hl [2, 0] rfl)
