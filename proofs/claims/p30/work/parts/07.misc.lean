def rCur (ind fl n : Int32) : Int32 := if ind = 0 then 0 else (1000 * n - fl) / ind
def rBy (ind fl n : Int32) : Int32 := if rCur ind fl n ≤ 0 then n + 1 else n - 1
def rStop (ind cr fl n : Int32) : Prop := jabs (rCur ind fl n) ≤ cr ∨ ¬ jabs (rCur ind fl (rBy ind fl n)) < jabs (rCur ind fl n)
def rIt (ind fl n : Int32) : Nat → Int32
  | 0 => n
  | k + 1 => rBy ind fl (rIt ind fl n k)
def pMir (t c t2 c2 : Int32) : Int32 := if c ≤ 0 then 0 else if c2 = -c then (if t2 = t then 1 else 0) else 0
def hCnt (wd : Nat → Int32) (w : Int32) : Nat → Int32
  | 0 => 0
  | k + 1 => if wd k = w then hCnt wd w k + 1 else hCnt wd w k
set_option maxHeartbeats 4000000 in
set_option maxRecDepth 100000 in
theorem metX5_currentWith (l : Launch) (G : va_G) (tys : List (ClassId × FieldType)) (ws : va_W) {pr ar : Nat} {ind cr fl nu sl : Int32} (hr0 : ws[pr]? = some (ar, .inr (6, [.int ind, .int cr, .int fl, .int nu, .int sl]))) (n : Int32) : Met l yX5_currentWith wsX5_currentWith ({ frames := 0, cells := 0, slots := 0, locals := 0 }) (pcR G tys ws [.ref ar, .int n]) (vp_Si (fun r => r = rCur ind fl n)) 0 0 (fun _ => False) := by
  refine ofR (cc := cX5_currentWith) (maxL := 2) (ret := some .int) (by decide) rfl (Nat.le_of_ble_eq_true rfl) ?_
  intro p e s m below meth c ls hx hb hr hlocks hml hown hts hl hP hK
  have hown : s.vm.findClass RX5 = some m.cls := hown
  have hiX5 : ∀ w ∈ u_ws RX5 TX5 5, w ∈ wsX5_currentWith := fun _ h => List.mem_cons_of_mem _ (List.mem_append_right _ h)
  have hl : lv_has ls 2 [(0, .ref ar), (1, .int n)] := hl
  refine lv_aload_n hx hb dX5_currentWith_0 rfl (lv_at hl 0 rfl) ?_
  refine va_get (D := G) (ci := 6) (v := .int ind) (C := RX5) (T := TX5) (N := 5) hx hb hts hiX5 hown hK hP pr hr0 rfl 0 (by decide) (hts (.fieldLink RX5 7 "Vortexpin$Ring" "inductance" "I") (List.mem_of_getElem? (i := 1) rfl)) (fun _ h9 => h9) rfl dX5_currentWith_1 ?_
  refine lv_if_ne (tgt := 11) hx hb dX5_currentWith_4 (by decide) (fun c4 => ?_) (fun c4 => ?_)
  · refine lv_sipush (v := 1000) hx hb dX5_currentWith_11 (by decide) ?_
    refine lv_iload_n hx hb dX5_currentWith_14 rfl (lv_at hl 1 rfl) ?_
    refine lv_imul hx hb dX5_currentWith_15 ?_
    refine lv_aload_n hx hb dX5_currentWith_16 rfl (lv_at hl 0 rfl) ?_
    refine va_get (D := G) (ci := 6) (v := .int fl) (C := RX5) (T := TX5) (N := 5) hx hb hts hiX5 hown hK hP pr hr0 rfl 2 (by decide) (hts (.fieldLink RX5 16 "Vortexpin$Ring" "flux" "I") (List.mem_of_getElem? (i := 2) rfl)) (fun _ h9 => h9) rfl dX5_currentWith_17 ?_
    refine lv_isub hx hb dX5_currentWith_20 ?_
    refine lv_aload_n hx hb dX5_currentWith_21 rfl (lv_at hl 0 rfl) ?_
    refine va_get (D := G) (ci := 6) (v := .int ind) (C := RX5) (T := TX5) (N := 5) hx hb hts hiX5 hown hK hP pr hr0 rfl 0 (by decide) (hts (.fieldLink RX5 7 "Vortexpin$Ring" "inductance" "I") (List.mem_of_getElem? (i := 1) rfl)) (fun _ h9 => h9) rfl dX5_currentWith_22 ?_
    refine lv_idiv hx hb dX5_currentWith_25 (c4) ?_
    exact W.iret (v := (((1000 : Int32) * n) - fl) / ind) hx hb hr (fun t ht hW => ⟨(((1000 : Int32) * n) - fl) / ind, rfl, (by simp only [rCur, c4, ↓reduceIte, not_true_eq_false, not_false_eq_true]), ht⟩) (fun _ h => absurd h List.not_mem_nil) dX5_currentWith_26
  · refine lv_iconst (v := 0) hx hb dX5_currentWith_7 (by decide) ?_
    refine lv_goto (tgt := 26) hx hb dX5_currentWith_8 (by decide) ?_
    exact W.iret (v := (0 : Int32)) hx hb hr (fun t ht hW => ⟨(0 : Int32), rfl, (by simp only [rCur, (eq_true c4), ↓reduceIte, not_true_eq_false, not_false_eq_true]), ht⟩) (fun _ h => absurd h List.not_mem_nil) dX5_currentWith_26
set_option maxHeartbeats 4000000 in
set_option maxRecDepth 100000 in
theorem metX5_settle (l : Launch) (G : va_G) (tys : List (ClassId × FieldType)) {A : Nat → Prop} (ws : va_W) {pr ar : Nat} {ind cr fl nu sl : Int32} (hr0 : ws[pr]? = some (ar, .inr (6, [.int ind, .int cr, .int fl, .int nu, .int sl]))) (hterm : ∃ j, j < 1000000 ∧ rStop ind cr fl (rIt ind fl nu j)) : Met l yX5_settle wsX5_settle ({ frames := 1, cells := 0, slots := 0, locals := 21 }) (pcM G tys ws A [.ref ar]) (va_Qi (fun (r : Int32) (i : Nat) => r = rIt ind fl nu i - nu ∧ rStop ind cr fl (rIt ind fl nu i) ∧ ∀ j, j < i → ¬ rStop ind cr fl (rIt ind fl nu j)) (fun i t => va_P G vwCl (ws.set pr (ar, .inr (6, [.int ind, .int cr, .int fl, .int (rIt ind fl nu i), .int (sl + nI i)]))) t.heap) A) 0 0 A := by
  refine ofM (cc := cX5_settle) (maxL := 5) (ret := some .int) (by decide) rfl (Nat.le_of_ble_eq_true rfl) ?_
  intro p e s m below meth c ls hx hb hr hlocks hml hown hts hin hl hP hK hD hA hS
  have hown : s.vm.findClass RX5 = some m.cls := hown
  have hiX5 : ∀ w ∈ u_ws RX5 TX5 5, w ∈ wsX5_settle := fun _ h => List.mem_cons_of_mem _ (List.mem_append_right _ h)
  have hl : lv_has ls 5 [(0, .ref ar)] := hl
  refine lv_aload_n hx hb dX5_settle_0 rfl (lv_at hl 0 rfl) ?_
  refine va_get (D := G) (ci := 6) (v := .int nu) (C := RX5) (T := TX5) (N := 5) hx hb hts hiX5 hown hK hP pr hr0 rfl 3 (by decide) (hts (.fieldLink RX5 19 "Vortexpin$Ring" "number" "I") (List.mem_of_getElem? (i := 1) rfl)) (fun _ h9 => h9) rfl dX5_settle_1 ?_
  refine lv_istore_n (lv' := [(1, .int nu), (0, .ref ar)]) hx hb dX5_settle_4 rfl hl (by decide) rfl (fun ls hl => ?_)
  refine lv_iconst (v := 0) hx hb dX5_settle_5 (by decide) ?_
  refine lv_istore_n (lv' := [(2, .int (0 : Int32)), (1, .int nu), (0, .ref ar)]) hx hb dX5_settle_6 rfl hl (by decide) rfl (fun ls hl => ?_)
  refine loopM 1000000 7 5 (fun i => [(0, .ref ar), (1, .int nu), (2, .int (nI i))]) (fun i => ws.set pr (ar, .inr (6, [.int ind, .int cr, .int fl, .int (rIt ind fl nu i), .int (sl + nI i)]))) (fun i => ∀ j, j < i → ¬ rStop ind cr fl (rIt ind fl nu j)) (fun i hNi hKi ihi H locs ls hP hD hS hl => ?_) (i0 := 0) (by omega) (fun j h => absurd h (Nat.not_lt_zero j)) (by show va_P G vwCl (ws.set pr (ar, .inr (6, [.int ind, .int cr, .int fl, .int nu, .int (sl + nI 0)]))) _; rw [nI_0, Int32.add_zero, va_self hr0]; exact hP) (by show va_D A (ws.set pr (ar, .inr (6, [.int ind, .int cr, .int fl, .int nu, .int (sl + nI 0)]))); rw [nI_0, Int32.add_zero, va_self hr0]; exact hD) hS (lv_sub hl [2, 1, 0] rfl)
  have hl : lv_has ls 5 [(0, .ref ar), (1, .int nu), (2, .int (nI i))] := hl
  have hP : va_P G vwCl (ws.set pr (ar, .inr (6, [.int ind, .int cr, .int fl, .int (rIt ind fl nu i), .int (sl + nI i)]))) H := hP
  have hD : va_D A (ws.set pr (ar, .inr (6, [.int ind, .int cr, .int fl, .int (rIt ind fl nu i), .int (sl + nI i)]))) := hD
  have hr0 := va_ge (e := (ar, .inr (6, [.int ind, .int cr, .int fl, .int (rIt ind fl nu i), .int (sl + nI i)]))) hr0
  refine lv_iload_n hx hb dX5_settle_7 rfl (lv_at hl 2 rfl) ?_
  refine lv_ldc (v := 1000000) hx hb hown (hts (.constant RX5 22 (1000000)) (List.mem_of_getElem? (i := 2) rfl)) dX5_settle_8 ?_
  refine lv_icmp_ge (tgt := 95) hx hb dX5_settle_10 (by decide) (fun c10 => ?_) (fun c10 => ?_)
  · have heqi : i = 1000000 := Nat.le_antisymm hNi ((nI_leI (by omega) (by omega)).mp c10)
    refine lv_aload_n hx hb dX5_settle_95 rfl (lv_at hl 0 rfl) ?_
    refine va_get (D := G) (ci := 6) (v := .int (rIt ind fl nu i)) (C := RX5) (T := TX5) (N := 5) hx hb hts hiX5 hown hK hP pr hr0 rfl 3 (by decide) (hts (.fieldLink RX5 19 "Vortexpin$Ring" "number" "I") (List.mem_of_getElem? (i := 1) rfl)) (fun _ h9 => h9) rfl dX5_settle_96 ?_
    refine lv_iload_n hx hb dX5_settle_99 rfl (lv_at hl 1 rfl) ?_
    refine lv_isub hx hb dX5_settle_100 ?_
    obtain ⟨j, hj, hsj⟩ := hterm
    exact absurd hsj (hKi j (by omega))
  · have hlti : i < 1000000 := Nat.lt_of_not_le (mt (nI_leI (by omega) (by omega)).mpr c10)
    refine lv_aload_n hx hb dX5_settle_13 rfl (lv_at hl 0 rfl) ?_
    refine lv_aload_n hx hb dX5_settle_14 rfl (lv_at hl 0 rfl) ?_
    refine va_get (D := G) (ci := 6) (v := .int (rIt ind fl nu i)) (C := RX5) (T := TX5) (N := 5) hx hb hts hiX5 hown hK hP pr hr0 rfl 3 (by decide) (hts (.fieldLink RX5 19 "Vortexpin$Ring" "number" "I") (List.mem_of_getElem? (i := 1) rfl)) (fun _ h9 => h9) rfl dX5_settle_15 ?_
    refine vp_callSi (va_Run.run (va_runV (As := [.int (rIt ind fl nu i)]) (rest := []) ⟨hx, hb, hml, hown, hts⟩ (metX5_currentWith l G tys _ hr0 (rIt ind fl nu i)) (cwV 1 hts gX5_settle_X5_currentWith rfl rfl rfl (by decide +kernel) ⟨Nat.le_of_ble_eq_true rfl, Nat.le_of_ble_eq_true rfl⟩) ⟨pcR_b, va_recv hK hP (ci := 6) (q0 := pr) rfl hr0, pcR_u hP hK⟩ rfl rfl hl.1 rfl (lv_room (Nat.le_of_ble_eq_true rfl)) dX5_settle_18 ⟨Nat.le_of_ble_eq_true rfl, Nat.le_of_ble_eq_true rfl⟩)) (fun r18 h18 => ?_)
    refine lv_istore_n (lv' := [(3, .int r18), (0, .ref ar), (1, .int nu), (2, .int (nI i))]) hx hb dX5_settle_21 rfl hl (by decide) rfl (fun ls hl => ?_)
    refine lv_iload_n hx hb dX5_settle_22 rfl (lv_at hl 0 rfl) ?_
    refine lv_if_le (tgt := 35) hx hb dX5_settle_23 (by decide) (fun c23 => ?_) (fun c23 => ?_)
    · refine lv_aload_n hx hb dX5_settle_35 rfl (lv_at hl 1 rfl) ?_
      refine va_get (D := G) (ci := 6) (v := .int (rIt ind fl nu i)) (C := RX5) (T := TX5) (N := 5) hx hb hts hiX5 hown hK hP pr hr0 rfl 3 (by decide) (hts (.fieldLink RX5 19 "Vortexpin$Ring" "number" "I") (List.mem_of_getElem? (i := 1) rfl)) (fun _ h9 => h9) rfl dX5_settle_36 ?_
      refine lv_iconst (v := 1) hx hb dX5_settle_39 (by decide) ?_
      refine lv_iadd hx hb dX5_settle_40 ?_
      refine lv_istore (lv' := [(4, .int ((rIt ind fl nu i) + (1 : Int32))), (3, .int r18), (0, .ref ar), (1, .int nu), (2, .int (nI i))]) hx hb dX5_settle_41 hl (by decide) rfl (fun ls hl => ?_)
      refine lv_iload_n hx hb dX5_settle_43 rfl (lv_at hl 1 rfl) ?_
      refine va_mabs hx hb (hml.trans hl.1.symm) hown (hts (.methodLink RX5 27 Lib.Math.abs.name) (List.mem_of_getElem? (i := 3) rfl)) (hts (.static Lib.Math.abs.name) (List.mem_of_getElem? (i := 4) rfl)) (hts (.initialized "java/lang/Math") (List.mem_of_getElem? (i := 5) rfl)) (hts (.code Lib.Math.abs.name Lib.Math.abs.code 1 (some .int)) (List.mem_of_getElem? (i := 6) rfl)) (Nat.le_of_ble_eq_true rfl) (Nat.le_of_ble_eq_true rfl) (Nat.le_of_ble_eq_true rfl) (Nat.le_of_ble_eq_true rfl) dX5_settle_44 ?_
      refine fold_abs ?_
      refine lv_aload_n hx hb dX5_settle_47 rfl (lv_at hl 2 rfl) ?_
      refine va_get (D := G) (ci := 6) (v := .int cr) (C := RX5) (T := TX5) (N := 5) hx hb hts hiX5 hown hK hP pr hr0 rfl 1 (by decide) (hts (.fieldLink RX5 13 "Vortexpin$Ring" "critical" "I") (List.mem_of_getElem? (i := 7) rfl)) (fun _ h9 => h9) rfl dX5_settle_48 ?_
      refine lv_icmp_le (tgt := 95) hx hb dX5_settle_51 (by decide) (fun c51 => ?_) (fun c51 => ?_)
      · refine lv_aload_n hx hb dX5_settle_95 rfl (lv_at hl 2 rfl) ?_
        refine va_get (D := G) (ci := 6) (v := .int (rIt ind fl nu i)) (C := RX5) (T := TX5) (N := 5) hx hb hts hiX5 hown hK hP pr hr0 rfl 3 (by decide) (hts (.fieldLink RX5 19 "Vortexpin$Ring" "number" "I") (List.mem_of_getElem? (i := 1) rfl)) (fun _ h9 => h9) rfl dX5_settle_96 ?_
        refine lv_iload_n hx hb dX5_settle_99 rfl (lv_at hl 3 rfl) ?_
        refine lv_isub hx hb dX5_settle_100 ?_
        exact W.iret (v := (rIt ind fl nu i) - nu) hx hb hr (fun t ht hW => ⟨⟨(rIt ind fl nu i) - nu, i, rfl, ⟨rfl, Or.inl (by rw [← h18]; exact c51), hKi⟩, by show va_P G vwCl _ t.heap; rw [ht]; exact hP⟩, hS.F ht⟩) hS.2.2 dX5_settle_101
      · refine lv_aload_n hx hb dX5_settle_54 rfl (lv_at hl 2 rfl) ?_
        refine lv_iload hx hb dX5_settle_55 (lv_at hl 0 rfl) ?_
        refine vp_callSi (va_Run.run (va_runV (As := [.int ((rIt ind fl nu i) + (1 : Int32))]) (rest := []) ⟨hx, hb, hml, hown, hts⟩ (metX5_currentWith l G tys _ hr0 ((rIt ind fl nu i) + (1 : Int32))) (cwV 1 hts gX5_settle_X5_currentWith rfl rfl rfl (by decide +kernel) ⟨Nat.le_of_ble_eq_true rfl, Nat.le_of_ble_eq_true rfl⟩) ⟨pcR_b, va_recv hK hP (ci := 6) (q0 := pr) rfl hr0, pcR_u hP hK⟩ rfl rfl hl.1 rfl (lv_room (Nat.le_of_ble_eq_true rfl)) dX5_settle_57 ⟨Nat.le_of_ble_eq_true rfl, Nat.le_of_ble_eq_true rfl⟩)) (fun r57 h57 => ?_)
        refine va_mabs hx hb (hml.trans hl.1.symm) hown (hts (.methodLink RX5 27 Lib.Math.abs.name) (List.mem_of_getElem? (i := 3) rfl)) (hts (.static Lib.Math.abs.name) (List.mem_of_getElem? (i := 4) rfl)) (hts (.initialized "java/lang/Math") (List.mem_of_getElem? (i := 5) rfl)) (hts (.code Lib.Math.abs.name Lib.Math.abs.code 1 (some .int)) (List.mem_of_getElem? (i := 6) rfl)) (Nat.le_of_ble_eq_true rfl) (Nat.le_of_ble_eq_true rfl) (Nat.le_of_ble_eq_true rfl) (Nat.le_of_ble_eq_true rfl) dX5_settle_60 ?_
        refine fold_abs ?_
        refine lv_iload_n hx hb dX5_settle_63 rfl (lv_at hl 1 rfl) ?_
        refine va_mabs hx hb (hml.trans hl.1.symm) hown (hts (.methodLink RX5 27 Lib.Math.abs.name) (List.mem_of_getElem? (i := 3) rfl)) (hts (.static Lib.Math.abs.name) (List.mem_of_getElem? (i := 4) rfl)) (hts (.initialized "java/lang/Math") (List.mem_of_getElem? (i := 5) rfl)) (hts (.code Lib.Math.abs.name Lib.Math.abs.code 1 (some .int)) (List.mem_of_getElem? (i := 6) rfl)) (Nat.le_of_ble_eq_true rfl) (Nat.le_of_ble_eq_true rfl) (Nat.le_of_ble_eq_true rfl) (Nat.le_of_ble_eq_true rfl) dX5_settle_64 ?_
        refine fold_abs ?_
        refine lv_icmp_lt (tgt := 73) hx hb dX5_settle_67 (by decide) (fun c67 => ?_) (fun c67 => ?_)
        · refine lv_aload_n hx hb dX5_settle_73 rfl (lv_at hl 2 rfl) ?_
          refine lv_iload hx hb dX5_settle_74 (lv_at hl 0 rfl) ?_
          refine va_put (D := G) (ci := 6) (v := .int ((rIt ind fl nu i) + (1 : Int32))) (ty := .int) (C := RX5) (T := TX5) (N := 5) hx hb hts hiX5 tyX5 tyX5_ok nmX5 hown hK hP hD hS pr hr0 rfl 3 (by decide) (hts (.fieldLink RX5 19 "Vortexpin$Ring" "number" "I") (List.mem_of_getElem? (i := 1) rfl)) (fun _ h9 => h9) rfl (by decide +kernel) (rfl) (rfl) (Nat.le_of_ble_eq_true rfl) dX5_settle_76 (fun H locs hP hD hS => ?_)
          have hr0 := va_ge (e := (ar, .inr (6, [.int ind, .int cr, .int fl, .int ((rIt ind fl nu i) + (1 : Int32)), .int (sl + nI i)]))) hr0
          refine lv_aload_n hx hb dX5_settle_79 rfl (lv_at hl 2 rfl) ?_
          refine lv_dup hx hb dX5_settle_80 rfl ?_
          refine va_get (D := G) (ci := 6) (v := .int (sl + nI i)) (C := RX5) (T := TX5) (N := 5) hx hb hts hiX5 hown hK hP pr hr0 rfl 4 (by decide) (hts (.fieldLink RX5 32 "Vortexpin$Ring" "slips" "I") (List.mem_of_getElem? (i := 8) rfl)) (fun _ h9 => h9) rfl dX5_settle_81 ?_
          refine lv_iconst (v := 1) hx hb dX5_settle_84 (by decide) ?_
          refine lv_iadd hx hb dX5_settle_85 ?_
          refine va_put (D := G) (ci := 6) (v := .int ((sl + nI i) + (1 : Int32))) (ty := .int) (C := RX5) (T := TX5) (N := 5) hx hb hts hiX5 tyX5 tyX5_ok nmX5 hown hK hP hD hS pr hr0 rfl 4 (by decide) (hts (.fieldLink RX5 32 "Vortexpin$Ring" "slips" "I") (List.mem_of_getElem? (i := 8) rfl)) (fun _ h9 => h9) rfl (by decide +kernel) (rfl) (rfl) (Nat.le_of_ble_eq_true rfl) dX5_settle_86 (fun H locs hP hD hS => ?_)
          have hr0 := va_ge (e := (ar, .inr (6, [.int ind, .int cr, .int fl, .int ((rIt ind fl nu i) + (1 : Int32)), .int ((sl + nI i) + (1 : Int32))]))) hr0
          refine lv_iinc (v := nI (i + 1)) (lv' := [(2, .int (nI (i + 1))), (4, .int ((rIt ind fl nu i) + (1 : Int32))), (3, .int r18), (0, .ref ar), (1, .int nu)]) hx hb dX5_settle_89 hl (k := 4) rfl (nI_1 i) (by decide) rfl (fun ls hl => ?_)
          refine lv_goto (tgt := 7) hx hb dX5_settle_92 (by decide) ?_
          have ew : ((ws.set pr (ar, .inr (6, [.int ind, .int cr, .int fl, .int (rIt ind fl nu i), .int (sl + nI i)]))).set pr (ar, .inr (6, [.int ind, .int cr, .int fl, .int ((rIt ind fl nu i) + (1 : Int32)), .int (sl + nI i)]))).set pr (ar, .inr (6, [.int ind, .int cr, .int fl, .int ((rIt ind fl nu i) + (1 : Int32)), .int ((sl + nI i) + (1 : Int32))])) = ws.set pr (ar, .inr (6, [.int ind, .int cr, .int fl, .int (rIt ind fl nu (i + 1)), .int (sl + nI (i + 1))])) := by simp only [List.set_set, rIt, rBy, ← h18, c23, ↓reduceIte, nI_1, Int32.add_assoc]
          have hP : va_P G vwCl (((ws.set pr (ar, .inr (6, [.int ind, .int cr, .int fl, .int (rIt ind fl nu i), .int (sl + nI i)]))).set pr (ar, .inr (6, [.int ind, .int cr, .int fl, .int ((rIt ind fl nu i) + (1 : Int32)), .int (sl + nI i)]))).set pr (ar, .inr (6, [.int ind, .int cr, .int fl, .int ((rIt ind fl nu i) + (1 : Int32)), .int ((sl + nI i) + (1 : Int32))]))) H := hP
          have hD : va_D A (((ws.set pr (ar, .inr (6, [.int ind, .int cr, .int fl, .int (rIt ind fl nu i), .int (sl + nI i)]))).set pr (ar, .inr (6, [.int ind, .int cr, .int fl, .int ((rIt ind fl nu i) + (1 : Int32)), .int (sl + nI i)]))).set pr (ar, .inr (6, [.int ind, .int cr, .int fl, .int ((rIt ind fl nu i) + (1 : Int32)), .int ((sl + nI i) + (1 : Int32))]))) := hD
          rw [ew] at hP hD
          exact ihi H _ ls hlti (lt_s hKi (fun hh => hh.elim (fun q => c51 (by rw [h18]; exact q)) (fun q => q (by simp only [rBy, ← h18, c23, ↓reduceIte]; rw [← h57]; exact c67)))) hP hD hS (lv_sub hl [3, 4, 0] rfl)
        · refine lv_goto (tgt := 95) hx hb dX5_settle_70 (by decide) ?_
          refine lv_aload_n hx hb dX5_settle_95 rfl (lv_at hl 2 rfl) ?_
          refine va_get (D := G) (ci := 6) (v := .int (rIt ind fl nu i)) (C := RX5) (T := TX5) (N := 5) hx hb hts hiX5 hown hK hP pr hr0 rfl 3 (by decide) (hts (.fieldLink RX5 19 "Vortexpin$Ring" "number" "I") (List.mem_of_getElem? (i := 1) rfl)) (fun _ h9 => h9) rfl dX5_settle_96 ?_
          refine lv_iload_n hx hb dX5_settle_99 rfl (lv_at hl 3 rfl) ?_
          refine lv_isub hx hb dX5_settle_100 ?_
          exact W.iret (v := (rIt ind fl nu i) - nu) hx hb hr (fun t ht hW => ⟨⟨(rIt ind fl nu i) - nu, i, rfl, ⟨rfl, Or.inr (by simp only [rBy, ← h18, c23, ↓reduceIte]; rw [← h57]; exact c67), hKi⟩, by show va_P G vwCl _ t.heap; rw [ht]; exact hP⟩, hS.F ht⟩) hS.2.2 dX5_settle_101
    · refine lv_aload_n hx hb dX5_settle_26 rfl (lv_at hl 1 rfl) ?_
      refine va_get (D := G) (ci := 6) (v := .int (rIt ind fl nu i)) (C := RX5) (T := TX5) (N := 5) hx hb hts hiX5 hown hK hP pr hr0 rfl 3 (by decide) (hts (.fieldLink RX5 19 "Vortexpin$Ring" "number" "I") (List.mem_of_getElem? (i := 1) rfl)) (fun _ h9 => h9) rfl dX5_settle_27 ?_
      refine lv_iconst (v := 1) hx hb dX5_settle_30 (by decide) ?_
      refine lv_isub hx hb dX5_settle_31 ?_
      refine lv_goto (tgt := 41) hx hb dX5_settle_32 (by decide) ?_
      refine lv_istore (lv' := [(4, .int ((rIt ind fl nu i) - (1 : Int32))), (3, .int r18), (0, .ref ar), (1, .int nu), (2, .int (nI i))]) hx hb dX5_settle_41 hl (by decide) rfl (fun ls hl => ?_)
      refine lv_iload_n hx hb dX5_settle_43 rfl (lv_at hl 1 rfl) ?_
      refine va_mabs hx hb (hml.trans hl.1.symm) hown (hts (.methodLink RX5 27 Lib.Math.abs.name) (List.mem_of_getElem? (i := 3) rfl)) (hts (.static Lib.Math.abs.name) (List.mem_of_getElem? (i := 4) rfl)) (hts (.initialized "java/lang/Math") (List.mem_of_getElem? (i := 5) rfl)) (hts (.code Lib.Math.abs.name Lib.Math.abs.code 1 (some .int)) (List.mem_of_getElem? (i := 6) rfl)) (Nat.le_of_ble_eq_true rfl) (Nat.le_of_ble_eq_true rfl) (Nat.le_of_ble_eq_true rfl) (Nat.le_of_ble_eq_true rfl) dX5_settle_44 ?_
      refine fold_abs ?_
      refine lv_aload_n hx hb dX5_settle_47 rfl (lv_at hl 2 rfl) ?_
      refine va_get (D := G) (ci := 6) (v := .int cr) (C := RX5) (T := TX5) (N := 5) hx hb hts hiX5 hown hK hP pr hr0 rfl 1 (by decide) (hts (.fieldLink RX5 13 "Vortexpin$Ring" "critical" "I") (List.mem_of_getElem? (i := 7) rfl)) (fun _ h9 => h9) rfl dX5_settle_48 ?_
      refine lv_icmp_le (tgt := 95) hx hb dX5_settle_51 (by decide) (fun c51 => ?_) (fun c51 => ?_)
      · refine lv_aload_n hx hb dX5_settle_95 rfl (lv_at hl 2 rfl) ?_
        refine va_get (D := G) (ci := 6) (v := .int (rIt ind fl nu i)) (C := RX5) (T := TX5) (N := 5) hx hb hts hiX5 hown hK hP pr hr0 rfl 3 (by decide) (hts (.fieldLink RX5 19 "Vortexpin$Ring" "number" "I") (List.mem_of_getElem? (i := 1) rfl)) (fun _ h9 => h9) rfl dX5_settle_96 ?_
        refine lv_iload_n hx hb dX5_settle_99 rfl (lv_at hl 3 rfl) ?_
        refine lv_isub hx hb dX5_settle_100 ?_
        exact W.iret (v := (rIt ind fl nu i) - nu) hx hb hr (fun t ht hW => ⟨⟨(rIt ind fl nu i) - nu, i, rfl, ⟨rfl, Or.inl (by rw [← h18]; exact c51), hKi⟩, by show va_P G vwCl _ t.heap; rw [ht]; exact hP⟩, hS.F ht⟩) hS.2.2 dX5_settle_101
      · refine lv_aload_n hx hb dX5_settle_54 rfl (lv_at hl 2 rfl) ?_
        refine lv_iload hx hb dX5_settle_55 (lv_at hl 0 rfl) ?_
        refine vp_callSi (va_Run.run (va_runV (As := [.int ((rIt ind fl nu i) - (1 : Int32))]) (rest := []) ⟨hx, hb, hml, hown, hts⟩ (metX5_currentWith l G tys _ hr0 ((rIt ind fl nu i) - (1 : Int32))) (cwV 1 hts gX5_settle_X5_currentWith rfl rfl rfl (by decide +kernel) ⟨Nat.le_of_ble_eq_true rfl, Nat.le_of_ble_eq_true rfl⟩) ⟨pcR_b, va_recv hK hP (ci := 6) (q0 := pr) rfl hr0, pcR_u hP hK⟩ rfl rfl hl.1 rfl (lv_room (Nat.le_of_ble_eq_true rfl)) dX5_settle_57 ⟨Nat.le_of_ble_eq_true rfl, Nat.le_of_ble_eq_true rfl⟩)) (fun r57 h57 => ?_)
        refine va_mabs hx hb (hml.trans hl.1.symm) hown (hts (.methodLink RX5 27 Lib.Math.abs.name) (List.mem_of_getElem? (i := 3) rfl)) (hts (.static Lib.Math.abs.name) (List.mem_of_getElem? (i := 4) rfl)) (hts (.initialized "java/lang/Math") (List.mem_of_getElem? (i := 5) rfl)) (hts (.code Lib.Math.abs.name Lib.Math.abs.code 1 (some .int)) (List.mem_of_getElem? (i := 6) rfl)) (Nat.le_of_ble_eq_true rfl) (Nat.le_of_ble_eq_true rfl) (Nat.le_of_ble_eq_true rfl) (Nat.le_of_ble_eq_true rfl) dX5_settle_60 ?_
        refine fold_abs ?_
        refine lv_iload_n hx hb dX5_settle_63 rfl (lv_at hl 1 rfl) ?_
        refine va_mabs hx hb (hml.trans hl.1.symm) hown (hts (.methodLink RX5 27 Lib.Math.abs.name) (List.mem_of_getElem? (i := 3) rfl)) (hts (.static Lib.Math.abs.name) (List.mem_of_getElem? (i := 4) rfl)) (hts (.initialized "java/lang/Math") (List.mem_of_getElem? (i := 5) rfl)) (hts (.code Lib.Math.abs.name Lib.Math.abs.code 1 (some .int)) (List.mem_of_getElem? (i := 6) rfl)) (Nat.le_of_ble_eq_true rfl) (Nat.le_of_ble_eq_true rfl) (Nat.le_of_ble_eq_true rfl) (Nat.le_of_ble_eq_true rfl) dX5_settle_64 ?_
        refine fold_abs ?_
        refine lv_icmp_lt (tgt := 73) hx hb dX5_settle_67 (by decide) (fun c67 => ?_) (fun c67 => ?_)
        · refine lv_aload_n hx hb dX5_settle_73 rfl (lv_at hl 2 rfl) ?_
          refine lv_iload hx hb dX5_settle_74 (lv_at hl 0 rfl) ?_
          refine va_put (D := G) (ci := 6) (v := .int ((rIt ind fl nu i) - (1 : Int32))) (ty := .int) (C := RX5) (T := TX5) (N := 5) hx hb hts hiX5 tyX5 tyX5_ok nmX5 hown hK hP hD hS pr hr0 rfl 3 (by decide) (hts (.fieldLink RX5 19 "Vortexpin$Ring" "number" "I") (List.mem_of_getElem? (i := 1) rfl)) (fun _ h9 => h9) rfl (by decide +kernel) (rfl) (rfl) (Nat.le_of_ble_eq_true rfl) dX5_settle_76 (fun H locs hP hD hS => ?_)
          have hr0 := va_ge (e := (ar, .inr (6, [.int ind, .int cr, .int fl, .int ((rIt ind fl nu i) - (1 : Int32)), .int (sl + nI i)]))) hr0
          refine lv_aload_n hx hb dX5_settle_79 rfl (lv_at hl 2 rfl) ?_
          refine lv_dup hx hb dX5_settle_80 rfl ?_
          refine va_get (D := G) (ci := 6) (v := .int (sl + nI i)) (C := RX5) (T := TX5) (N := 5) hx hb hts hiX5 hown hK hP pr hr0 rfl 4 (by decide) (hts (.fieldLink RX5 32 "Vortexpin$Ring" "slips" "I") (List.mem_of_getElem? (i := 8) rfl)) (fun _ h9 => h9) rfl dX5_settle_81 ?_
          refine lv_iconst (v := 1) hx hb dX5_settle_84 (by decide) ?_
          refine lv_iadd hx hb dX5_settle_85 ?_
          refine va_put (D := G) (ci := 6) (v := .int ((sl + nI i) + (1 : Int32))) (ty := .int) (C := RX5) (T := TX5) (N := 5) hx hb hts hiX5 tyX5 tyX5_ok nmX5 hown hK hP hD hS pr hr0 rfl 4 (by decide) (hts (.fieldLink RX5 32 "Vortexpin$Ring" "slips" "I") (List.mem_of_getElem? (i := 8) rfl)) (fun _ h9 => h9) rfl (by decide +kernel) (rfl) (rfl) (Nat.le_of_ble_eq_true rfl) dX5_settle_86 (fun H locs hP hD hS => ?_)
          have hr0 := va_ge (e := (ar, .inr (6, [.int ind, .int cr, .int fl, .int ((rIt ind fl nu i) - (1 : Int32)), .int ((sl + nI i) + (1 : Int32))]))) hr0
          refine lv_iinc (v := nI (i + 1)) (lv' := [(2, .int (nI (i + 1))), (4, .int ((rIt ind fl nu i) - (1 : Int32))), (3, .int r18), (0, .ref ar), (1, .int nu)]) hx hb dX5_settle_89 hl (k := 4) rfl (nI_1 i) (by decide) rfl (fun ls hl => ?_)
          refine lv_goto (tgt := 7) hx hb dX5_settle_92 (by decide) ?_
          have ew : ((ws.set pr (ar, .inr (6, [.int ind, .int cr, .int fl, .int (rIt ind fl nu i), .int (sl + nI i)]))).set pr (ar, .inr (6, [.int ind, .int cr, .int fl, .int ((rIt ind fl nu i) - (1 : Int32)), .int (sl + nI i)]))).set pr (ar, .inr (6, [.int ind, .int cr, .int fl, .int ((rIt ind fl nu i) - (1 : Int32)), .int ((sl + nI i) + (1 : Int32))])) = ws.set pr (ar, .inr (6, [.int ind, .int cr, .int fl, .int (rIt ind fl nu (i + 1)), .int (sl + nI (i + 1))])) := by simp only [List.set_set, rIt, rBy, ← h18, c23, ↓reduceIte, nI_1, Int32.add_assoc]
          have hP : va_P G vwCl (((ws.set pr (ar, .inr (6, [.int ind, .int cr, .int fl, .int (rIt ind fl nu i), .int (sl + nI i)]))).set pr (ar, .inr (6, [.int ind, .int cr, .int fl, .int ((rIt ind fl nu i) - (1 : Int32)), .int (sl + nI i)]))).set pr (ar, .inr (6, [.int ind, .int cr, .int fl, .int ((rIt ind fl nu i) - (1 : Int32)), .int ((sl + nI i) + (1 : Int32))]))) H := hP
          have hD : va_D A (((ws.set pr (ar, .inr (6, [.int ind, .int cr, .int fl, .int (rIt ind fl nu i), .int (sl + nI i)]))).set pr (ar, .inr (6, [.int ind, .int cr, .int fl, .int ((rIt ind fl nu i) - (1 : Int32)), .int (sl + nI i)]))).set pr (ar, .inr (6, [.int ind, .int cr, .int fl, .int ((rIt ind fl nu i) - (1 : Int32)), .int ((sl + nI i) + (1 : Int32))]))) := hD
          rw [ew] at hP hD
          exact ihi H _ ls hlti (lt_s hKi (fun hh => hh.elim (fun q => c51 (by rw [h18]; exact q)) (fun q => q (by simp only [rBy, ← h18, c23, ↓reduceIte]; rw [← h57]; exact c67)))) hP hD hS (lv_sub hl [3, 4, 0] rfl)
        · refine lv_goto (tgt := 95) hx hb dX5_settle_70 (by decide) ?_
          refine lv_aload_n hx hb dX5_settle_95 rfl (lv_at hl 2 rfl) ?_
          refine va_get (D := G) (ci := 6) (v := .int (rIt ind fl nu i)) (C := RX5) (T := TX5) (N := 5) hx hb hts hiX5 hown hK hP pr hr0 rfl 3 (by decide) (hts (.fieldLink RX5 19 "Vortexpin$Ring" "number" "I") (List.mem_of_getElem? (i := 1) rfl)) (fun _ h9 => h9) rfl dX5_settle_96 ?_
          refine lv_iload_n hx hb dX5_settle_99 rfl (lv_at hl 3 rfl) ?_
          refine lv_isub hx hb dX5_settle_100 ?_
          exact W.iret (v := (rIt ind fl nu i) - nu) hx hb hr (fun t ht hW => ⟨⟨(rIt ind fl nu i) - nu, i, rfl, ⟨rfl, Or.inr (by simp only [rBy, ← h18, c23, ↓reduceIte]; rw [← h57]; exact c67), hKi⟩, by show va_P G vwCl _ t.heap; rw [ht]; exact hP⟩, hS.F ht⟩) hS.2.2 dX5_settle_101
set_option maxHeartbeats 4000000 in
set_option maxRecDepth 100000 in
theorem metX4_mirrors (l : Launch) (G : va_G) (tys : List (ClassId × FieldType)) (ws : va_W) {p4 a4 q4 b4 : Nat} {tm cu vo tm2 cu2 vo2 : Int32} (h4 : ws[p4]? = some (a4, .inr (5, [.int tm, .int cu, .int vo]))) (g4 : ws[q4]? = some (b4, .inr (5, [.int tm2, .int cu2, .int vo2]))) : Met l yX4_mirrors wsX4_mirrors ({ frames := 0, cells := 0, slots := 0, locals := 0 }) (pcR G tys ws [.ref a4, .ref b4]) (vp_Si (fun r => r = pMir tm cu tm2 cu2)) 0 0 (fun _ => False) := by
  refine ofR (cc := cX4_mirrors) (maxL := 2) (ret := some .boolean) (by decide) rfl (Nat.le_of_ble_eq_true rfl) ?_
  intro p e s m below meth c ls hx hb hr hlocks hml hown hts hl hP hK
  have hown : s.vm.findClass RX4 = some m.cls := hown
  have hiX4 : ∀ w ∈ u_ws RX4 TX4 3, w ∈ wsX4_mirrors := fun _ h => List.mem_cons_of_mem _ (List.mem_append_right _ h)
  have hl : lv_has ls 2 [(0, .ref a4), (1, .ref b4)] := hl
  refine lv_aload_n hx hb dX4_mirrors_0 rfl (lv_at hl 0 rfl) ?_
  refine va_get (D := G) (ci := 5) (v := .int cu) (C := RX4) (T := TX4) (N := 3) hx hb hts hiX4 hown hK hP p4 h4 rfl 1 (by decide) (hts (.fieldLink RX4 13 "Vortexpin$Point" "current" "I") (List.mem_of_getElem? (i := 1) rfl)) (fun _ h9 => h9) rfl dX4_mirrors_1 ?_
  refine lv_if_le (tgt := 34) hx hb dX4_mirrors_4 (by decide) (fun c4 => ?_) (fun c4 => ?_)
  · refine lv_iconst (v := 0) hx hb dX4_mirrors_34 (by decide) ?_
    exact W.zret (v := (0 : Int32)) hx hb hr (rfl) (fun t ht hW => ⟨(0 : Int32), rfl, (by simp only [pMir, c4, ↓reduceIte, not_true_eq_false, not_false_eq_true]), ht⟩) (fun _ h => absurd h List.not_mem_nil) dX4_mirrors_35
  · refine lv_aload_n hx hb dX4_mirrors_7 rfl (lv_at hl 1 rfl) ?_
    refine va_get (D := G) (ci := 5) (v := .int cu2) (C := RX4) (T := TX4) (N := 3) hx hb hts hiX4 hown hK hP q4 g4 rfl 1 (by decide) (hts (.fieldLink RX4 13 "Vortexpin$Point" "current" "I") (List.mem_of_getElem? (i := 1) rfl)) (fun _ h9 => h9) rfl dX4_mirrors_8 ?_
    refine lv_aload_n hx hb dX4_mirrors_11 rfl (lv_at hl 0 rfl) ?_
    refine va_get (D := G) (ci := 5) (v := .int cu) (C := RX4) (T := TX4) (N := 3) hx hb hts hiX4 hown hK hP p4 h4 rfl 1 (by decide) (hts (.fieldLink RX4 13 "Vortexpin$Point" "current" "I") (List.mem_of_getElem? (i := 1) rfl)) (fun _ h9 => h9) rfl dX4_mirrors_12 ?_
    refine lv_ineg hx hb dX4_mirrors_15 ?_
    refine lv_icmp_ne (tgt := 34) hx hb dX4_mirrors_16 (by decide) (fun c16 => ?_) (fun c16 => ?_)
    · refine lv_iconst (v := 0) hx hb dX4_mirrors_34 (by decide) ?_
      exact W.zret (v := (0 : Int32)) hx hb hr (rfl) (fun t ht hW => ⟨(0 : Int32), rfl, (by simp only [pMir, c4, c16, ↓reduceIte, not_true_eq_false, not_false_eq_true]), ht⟩) (fun _ h => absurd h List.not_mem_nil) dX4_mirrors_35
    · refine lv_aload_n hx hb dX4_mirrors_19 rfl (lv_at hl 1 rfl) ?_
      refine va_get (D := G) (ci := 5) (v := .int tm2) (C := RX4) (T := TX4) (N := 3) hx hb hts hiX4 hown hK hP q4 g4 rfl 0 (by decide) (hts (.fieldLink RX4 7 "Vortexpin$Point" "temperature" "I") (List.mem_of_getElem? (i := 2) rfl)) (fun _ h9 => h9) rfl dX4_mirrors_20 ?_
      refine lv_aload_n hx hb dX4_mirrors_23 rfl (lv_at hl 0 rfl) ?_
      refine va_get (D := G) (ci := 5) (v := .int tm) (C := RX4) (T := TX4) (N := 3) hx hb hts hiX4 hown hK hP p4 h4 rfl 0 (by decide) (hts (.fieldLink RX4 7 "Vortexpin$Point" "temperature" "I") (List.mem_of_getElem? (i := 2) rfl)) (fun _ h9 => h9) rfl dX4_mirrors_24 ?_
      refine lv_icmp_ne (tgt := 34) hx hb dX4_mirrors_27 (by decide) (fun c27 => ?_) (fun c27 => ?_)
      · refine lv_iconst (v := 0) hx hb dX4_mirrors_34 (by decide) ?_
        exact W.zret (v := (0 : Int32)) hx hb hr (rfl) (fun t ht hW => ⟨(0 : Int32), rfl, (by simp only [pMir, c4, (eq_true c16), c27, ↓reduceIte, not_true_eq_false, not_false_eq_true]), ht⟩) (fun _ h => absurd h List.not_mem_nil) dX4_mirrors_35
      · refine lv_iconst (v := 1) hx hb dX4_mirrors_30 (by decide) ?_
        refine lv_goto (tgt := 35) hx hb dX4_mirrors_31 (by decide) ?_
        exact W.zret (v := (1 : Int32)) hx hb hr (rfl) (fun t ht hW => ⟨(1 : Int32), rfl, (by simp only [pMir, c4, (eq_true c16), (eq_true c27), ↓reduceIte, not_true_eq_false, not_false_eq_true]), ht⟩) (fun _ h => absurd h List.not_mem_nil) dX4_mirrors_35
set_option maxHeartbeats 4000000 in
set_option maxRecDepth 100000 in
theorem metX0_housesThat (l : Launch) (G : va_G) (tys : List (ClassId × FieldType)) (cI : ClassId) (htI : tI tys cI) (ws : va_W) {p1 a1 pv av : Nat} {tm fr to pt : Int32} {wd : Nat → Int32} (h1 : ws[p1]? = some (a1, .inr (1, [.int tm, .int fr, .int to, .int pt, .ref av]))) (hv : ws[pv]? = some (av, .inl (cI, 7, .inl wd))) (w : Int32) : Met l yX0_housesThat wsX0_housesThat ({ frames := 0, cells := 0, slots := 0, locals := 0 }) (pcR G tys ws [.ref a1, .int w]) (vp_Si (fun r => r = hCnt wd w 7)) 0 0 (fun _ => False) := by
  refine ofR (cc := cX0_housesThat) (maxL := 4) (ret := some .int) (by decide) rfl (Nat.le_of_ble_eq_true rfl) ?_
  intro p e s m below meth c ls hx hb hr hlocks hml hown hts hl hP hK
  have hown : s.vm.findClass RX0 = some m.cls := hown
  have hiX0 : ∀ w ∈ u_ws RX0 TX0 5, w ∈ wsX0_housesThat := fun _ h => List.mem_cons_of_mem _ (List.mem_append_right _ h)
  have hl : lv_has ls 4 [(0, .ref a1), (1, .int w)] := hl
  refine lv_iconst (v := 0) hx hb dX0_housesThat_0 (by decide) ?_
  refine lv_istore_n (lv' := [(2, .int (0 : Int32)), (0, .ref a1), (1, .int w)]) hx hb dX0_housesThat_1 rfl hl (by decide) rfl (fun ls hl => ?_)
  refine lv_iconst (v := 0) hx hb dX0_housesThat_2 (by decide) ?_
  refine lv_istore_n (lv' := [(3, .int (0 : Int32)), (2, .int (0 : Int32)), (0, .ref a1), (1, .int w)]) hx hb dX0_housesThat_3 rfl hl (by decide) rfl (fun ls hl => ?_)
  refine loopR 7 4 4 (fun i => [(0, .ref a1), (1, .int w), (2, .int (hCnt wd w i)), (3, .int (nI i))]) (fun i => True) (fun i hNi hKi ihi ls hl => ?_) (i0 := 0) (by omega) (trivial) (lv_sub hl [2, 3, 1, 0] rfl)
  have hl : lv_has ls 4 [(0, .ref a1), (1, .int w), (2, .int (hCnt wd w i)), (3, .int (nI i))] := hl
  refine lv_iload_n hx hb dX0_housesThat_4 rfl (lv_at hl 3 rfl) ?_
  refine lv_aload_n hx hb dX0_housesThat_5 rfl (lv_at hl 0 rfl) ?_
  refine va_get (D := G) (ci := 1) (v := .ref av) (C := RX0) (T := TX0) (N := 5) hx hb hts hiX0 hown hK hP p1 h1 rfl 4 (by decide) (hts (.fieldLink RX0 24 "Vortexpin$Claim" "words" "[I") (List.mem_of_getElem? (i := 1) rfl)) (fun _ h9 => h9) rfl dX0_housesThat_6 ?_
  refine va_alen hx hb hK hP pv 0 hv htI (v := (7 : Int32)) rfl dX0_housesThat_9 ?_
  refine lv_icmp_ge (tgt := 32) hx hb dX0_housesThat_10 (by decide) (fun c10 => ?_) (fun c10 => ?_)
  · have heqi : i = 7 := Nat.le_antisymm hNi ((nI_leI (by omega) (by omega)).mp c10)
    refine lv_iload_n hx hb dX0_housesThat_32 rfl (lv_at hl 2 rfl) ?_
    exact W.iret (v := hCnt wd w i) hx hb hr (fun t ht hW => ⟨hCnt wd w i, rfl, (by rw [heqi]), ht⟩) (fun _ h => absurd h List.not_mem_nil) dX0_housesThat_33
  · have hlti : i < 7 := Nat.lt_of_not_le (mt (nI_leI (by omega) (by omega)).mpr c10)
    refine lv_aload_n hx hb dX0_housesThat_13 rfl (lv_at hl 0 rfl) ?_
    refine va_get (D := G) (ci := 1) (v := .ref av) (C := RX0) (T := TX0) (N := 5) hx hb hts hiX0 hown hK hP p1 h1 rfl 4 (by decide) (hts (.fieldLink RX0 24 "Vortexpin$Claim" "words" "[I") (List.mem_of_getElem? (i := 1) rfl)) (fun _ h9 => h9) rfl dX0_housesThat_14 ?_
    refine lv_iload_n hx hb dX0_housesThat_17 rfl (lv_at hl 3 rfl) ?_
    refine va_iald hx hb hK hP pv 0 hv htI (by first | exact vp_in_nI (by omega) (by omega) | assumption) dX0_housesThat_18 ?_
    refine rd_i (j := i) (nI_clamp (by omega)) ?_
    refine lv_iload_n hx hb dX0_housesThat_19 rfl (lv_at hl 1 rfl) ?_
    refine lv_icmp_ne (tgt := 26) hx hb dX0_housesThat_20 (by decide) (fun c20 => ?_) (fun c20 => ?_)
    · refine lv_iinc (v := nI (i + 1)) (lv' := [(3, .int (nI (i + 1))), (0, .ref a1), (1, .int w), (2, .int (hCnt wd w i))]) hx hb dX0_housesThat_26 hl (k := 3) rfl (nI_1 i) (by decide) rfl (fun ls hl => ?_)
      refine lv_goto (tgt := 4) hx hb dX0_housesThat_29 (by decide) ?_
      have ea2 : hCnt wd w i = hCnt wd w (i + 1) := by simp only [hCnt, c10, c20, ↓reduceIte, not_true_eq_false, not_false_eq_true]
      rw [ea2] at hl
      exact ihi ls hlti (trivial) (lv_sub hl [1, 2, 3, 0] rfl)
    · refine lv_iinc (v := (hCnt wd w i) + 1) (lv' := [(2, .int ((hCnt wd w i) + 1)), (0, .ref a1), (1, .int w), (3, .int (nI i))]) hx hb dX0_housesThat_23 hl (k := 2) rfl (rfl) (by decide) rfl (fun ls hl => ?_)
      refine lv_iinc (v := nI (i + 1)) (lv' := [(3, .int (nI (i + 1))), (2, .int ((hCnt wd w i) + 1)), (0, .ref a1), (1, .int w)]) hx hb dX0_housesThat_26 hl (k := 3) rfl (nI_1 i) (by decide) rfl (fun ls hl => ?_)
      refine lv_goto (tgt := 4) hx hb dX0_housesThat_29 (by decide) ?_
      have ea2 : (hCnt wd w i) + 1 = hCnt wd w (i + 1) := by simp only [hCnt, c10, (eq_true c20), ↓reduceIte, not_true_eq_false, not_false_eq_true]
      rw [ea2] at hl
      exact ihi ls hlti (trivial) (lv_sub hl [2, 3, 1, 0] rfl)

