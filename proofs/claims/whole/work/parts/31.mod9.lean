def mBt (cel dep win : Nat → Int32) (dr w : Int32) (n : Nat) : Nat → Int32
  | 0 => -1
  | k + 1 => if win (8 * k) = -1 then (if mBt cel dep win dr w n k = -1 then nI (8 * k) else if mEn cel dep dr w n (mBt cel dep win dr w n k) ≤ mEn cel dep dr w n (nI (8 * k)) then mBt cel dep win dr w n k else nI (8 * k)) else mBt cel dep win dr w n k
theorem mBt_ok {cel dep win : Nat → Int32} {dr w : Int32} {n : Nat} : ∀ k, k ≤ 6 → ¬ mBt cel dep win dr w n k = -1 → ¬ uK (mBt cel dep win dr w n k) 48 := by
  intro k
  induction k with
  | zero => exact fun _ h => absurd rfl h
  | succ k ih =>
    intro hk
    have ih := ih (by omega)
    have h8 : ¬ uK (nI (8 * k)) 48 := uK_of (n := 48) (by omega) (by decide)
    unfold mBt
    by_cases h1 : win (8 * k) = -1
    · rw [if_pos h1]
      by_cases h2 : mBt cel dep win dr w n k = -1
      · rw [if_pos h2]; exact fun _ => h8
      · rw [if_neg h2]
        by_cases h3 : mEn cel dep dr w n (mBt cel dep win dr w n k) ≤ mEn cel dep dr w n (nI (8 * k))
        · rw [if_pos h3]; exact ih
        · rw [if_neg h3]; exact fun _ => h8
    · rw [if_neg h1]; exact ih
set_option maxHeartbeats 1000000 in
set_option maxRecDepth 100000 in
theorem metX8_enter (l : Launch) (G : va_G) (tys : List (ClassId × FieldType)) {cI : ClassId} (htI : tI tys cI) {A : Nat → Prop} (ws : va_W) {am : Nat} {ad : Nat → Nat} {z : Nat → Int32} {wi dm : Int64} {F : Nat → Nat → Int32} (hm : ws[12]? = some (am, .inr (9, mF ad z wi dm))) (hA18 : ws[18]? = some (ad 18, .inl (cI, 48, .inl (F 18)))) (hA19 : ws[19]? = some (ad 19, .inl (cI, 48, .inl (F 19)))) (hA20 : ws[20]? = some (ad 20, .inl (cI, 20, .inl (F 20)))) {nW : Nat} (hz9 : z 9 = nI nW) (h60nW : nW ≤ 20) (pr : Int32) : Met l yX8_enter wsX8_enter ({ frames := 2, cells := 0, slots := 0, locals := 45 }) (pcM G tys ws A [.ref am, .int pr]) (va_Qi (fun (r : Int32) (_ : Unit) => cdEnter pr (nI nW) = 0 → r = (if (mBt (F 20) (F 18) (F 19) (z 11) (z 9) nW 6) = -1 then -1 else if mEn (F 20) (F 18) (z 11) (z 9) nW (mBt (F 20) (F 18) (F 19) (z 11) (z 9) nW 6) ≤ pr then z 9 else -1)) (fun _ t => va_P G vwCl (if cdEnter pr (nI nW) = 0 then (if (mBt (F 20) (F 18) (F 19) (z 11) (z 9) nW 6) = -1 then ws.set 12 (am, .inr (9, mF ad (upd z 0 0) wi dm)) else if mEn (F 20) (F 18) (z 11) (z 9) nW (mBt (F 20) (F 18) (F 19) (z 11) (z 9) nW 6) ≤ pr then (((ws.set 12 (am, .inr (9, mF ad (upd z 0 0) wi dm))).set 20 (ad 20, .inl (cI, 20, .inl (upd (F 20) (z 9).toNatClampNeg (mBt (F 20) (F 18) (F 19) (z 11) (z 9) nW 6))))).set 19 (ad 19, .inl (cI, 48, .inl (upd (F 19) (mBt (F 20) (F 18) (F 19) (z 11) (z 9) nW 6).toNatClampNeg (z 9))))).set 12 (am, .inr (9, mF ad (upd (upd z 0 0) 9 (z 9 + 1)) wi dm)) else ws.set 12 (am, .inr (9, mF ad (upd z 0 0) wi dm))) else ws.set 12 (am, .inr (9, mF ad (upd z 0 (cdEnter pr (nI nW))) wi dm))) t.heap ∧ va_D A (if cdEnter pr (nI nW) = 0 then (if (mBt (F 20) (F 18) (F 19) (z 11) (z 9) nW 6) = -1 then ws.set 12 (am, .inr (9, mF ad (upd z 0 0) wi dm)) else if mEn (F 20) (F 18) (z 11) (z 9) nW (mBt (F 20) (F 18) (F 19) (z 11) (z 9) nW 6) ≤ pr then (((ws.set 12 (am, .inr (9, mF ad (upd z 0 0) wi dm))).set 20 (ad 20, .inl (cI, 20, .inl (upd (F 20) (z 9).toNatClampNeg (mBt (F 20) (F 18) (F 19) (z 11) (z 9) nW 6))))).set 19 (ad 19, .inl (cI, 48, .inl (upd (F 19) (mBt (F 20) (F 18) (F 19) (z 11) (z 9) nW 6).toNatClampNeg (z 9))))).set 12 (am, .inr (9, mF ad (upd (upd z 0 0) 9 (z 9 + 1)) wi dm)) else ws.set 12 (am, .inr (9, mF ad (upd z 0 0) wi dm))) else ws.set 12 (am, .inr (9, mF ad (upd z 0 (cdEnter pr (nI nW))) wi dm)))) A) 0 0 A := by
  refine ofM (cc := cX8_enter) (maxL := 6) (ret := some .int) (by decide) rfl (Nat.le_of_ble_eq_true rfl) ?_
  intro p e s m below meth c ls hx hb hr hlocks hml hown hts hin hl hP hK hD hA hS
  have hown : s.vm.findClass RX8 = some m.cls := hown
  have hiX8 : ∀ w ∈ u_ws RX8 TX8 39, w ∈ wsX8_enter := fun _ h => List.mem_cons_of_mem _ (List.mem_append_right _ h)
  have hl : lv_has ls 6 [(0, .ref am), (1, .int pr)] := hl
  refine lv_aload_n hx hb dX8_enter_0 rfl (lv_at hl 0 rfl) ?_
  refine lv_iconst (v := 0) hx hb dX8_enter_1 (by decide) ?_
  refine va_put (D := G) (ci := 9) (v := .int (0 : Int32)) (ty := .int) (C := RX8) (T := TX8) (N := 39) hx hb hts hiX8 tyX8 tyX8_ok nmX8 hown hK hP hD hS 12 hm rfl 0 (by decide) (hts (.fieldLink RX8 86 "VortexpinModel" "thrown" "I") (List.mem_of_getElem? (i := 1) rfl)) (fun _ h9 => h9) rfl (by decide +kernel) (rfl) (rfl) (Nat.le_of_ble_eq_true rfl) dX8_enter_2 (fun H locs hP hD hS => ?_)
  have hP : va_P G vwCl ((ws).set 12 (am, .inr (9, mF ad (upd z 0 (0 : Int32)) wi dm))) H := hP
  have hD : va_D A ((ws).set 12 (am, .inr (9, mF ad (upd z 0 (0 : Int32)) wi dm))) := hD
  have hA18 := va_gs (k := 12) (e := (am, .inr (9, mF ad (upd z 0 (0 : Int32)) wi dm))) (by decide) hA18
  have hA19 := va_gs (k := 12) (e := (am, .inr (9, mF ad (upd z 0 (0 : Int32)) wi dm))) (by decide) hA19
  have hA20 := va_gs (k := 12) (e := (am, .inr (9, mF ad (upd z 0 (0 : Int32)) wi dm))) (by decide) hA20
  have hm := va_ge (e := (am, .inr (9, mF ad (upd z 0 (0 : Int32)) wi dm))) hm
  refine lv_iload_n hx hb dX8_enter_5 rfl (lv_at hl 1 rfl) ?_
  refine lv_bipush (v := -100) hx hb dX8_enter_6 (by decide) ?_
  refine lv_sipush (v := 1000) hx hb dX8_enter_8 (by decide) ?_
  refine vp_callSi (va_Run.run (va_runS (As := [.int pr, .int (-100 : Int32), .int (1000 : Int32)]) (rest := []) ⟨hx, hb, hml, hown, hts⟩ (metX8_in l pr (-100 : Int32) (1000 : Int32)) (va_cwS 3 hts gX8_enter_X8_in rfl rfl rfl (by decide +kernel) ⟨Nat.le_of_ble_eq_true rfl, Nat.le_of_ble_eq_true rfl⟩) ⟨pc0_b, pc0_u⟩ rfl rfl hl.1 rfl (lv_room (Nat.le_of_ble_eq_true rfl)) dX8_enter_11 ⟨Nat.le_of_ble_eq_true rfl, Nat.le_of_ble_eq_true rfl⟩)) (fun r11 h11 => ?_)
  refine lv_if_ne (tgt := 23) hx hb dX8_enter_14 (by decide) (fun c14 => ?_) (fun c14 => ?_)
  · have k0 : ¬ (oR pr (-100) 1000) := fun q9 => c14 (h11.trans (mIn_0.mpr q9))
    refine lv_aload_n hx hb dX8_enter_23 rfl (lv_at hl 0 rfl) ?_
    refine va_get (D := G) (ci := 9) (v := .int (z 9)) (C := RX8) (T := TX8) (N := 39) hx hb hts hiX8 hown hK hP 12 hm rfl 9 (by decide) (hts (.fieldLink RX8 115 "VortexpinModel" "whirls" "I") (List.mem_of_getElem? (i := 2) rfl)) (fun _ h9 => h9) rfl dX8_enter_24 ?_
    refine lv_bipush (v := 20) hx hb dX8_enter_27 (by decide) ?_
    refine lv_icmp_ne (tgt := 38) hx hb dX8_enter_29 (by decide) (fun c29 => ?_) (fun c29 => ?_)
    · have k1 : ¬ (20 : Int32) ≤ nI nW := fun q9 => c29 (by rw [hz9]; exact (full_n h60nW (by decide)).mpr q9)
      refine lv_iconst (v := -1) hx hb dX8_enter_38 (by decide) ?_
      refine lv_istore_n (lv' := [(2, .int (-1 : Int32)), (0, .ref am), (1, .int pr)]) hx hb dX8_enter_39 rfl hl (by decide) rfl (fun ls hl => ?_)
      refine lv_iconst (v := 0) hx hb dX8_enter_40 (by decide) ?_
      refine lv_istore_n (lv' := [(3, .int (0 : Int32)), (2, .int (-1 : Int32)), (0, .ref am), (1, .int pr)]) hx hb dX8_enter_41 rfl hl (by decide) rfl (fun ls hl => ?_)
      have hl : lv_has ls 6 [(3, .int (0 : Int32)), (2, .int (mBt (F 20) (F 18) (F 19) (z 11) (z 9) nW 0)), (0, .ref am), (1, .int pr)] := hl
      refine loopM 6 42 6 (fun i => [(0, .ref am), (1, .int pr), (2, .int (mBt (F 20) (F 18) (F 19) (z 11) (z 9) nW i)), (3, .int (nI i))]) (fun i => ws.set 12 (am, .inr (9, mF ad (upd z 0 0) wi dm))) (fun i => True) (fun i hNi hKi ihi H locs ls hP hD hS hl => ?_) (i0 := 0) (by omega) (trivial) (hP) (hD) hS (lv_sub hl [2, 3, 1, 0] rfl)
      have hl : lv_has ls 6 [(0, .ref am), (1, .int pr), (2, .int (mBt (F 20) (F 18) (F 19) (z 11) (z 9) nW i)), (3, .int (nI i))] := hl
      have hP : va_P G vwCl (ws.set 12 (am, .inr (9, mF ad (upd z 0 0) wi dm))) H := hP
      have hD : va_D A (ws.set 12 (am, .inr (9, mF ad (upd z 0 0) wi dm))) := hD
      refine lv_iload_n hx hb dX8_enter_42 rfl (lv_at hl 3 rfl) ?_
      refine lv_bipush (v := 6) hx hb dX8_enter_43 (by decide) ?_
      refine lv_icmp_ge (tgt := 117) hx hb dX8_enter_45 (by decide) (fun c45 => ?_) (fun c45 => ?_)
      · have heqi : i = 6 := Nat.le_antisymm hNi ((nI_leI (by omega) (by omega)).mp c45)
        refine lv_iload_n hx hb dX8_enter_117 rfl (lv_at hl 2 rfl) ?_
        refine lv_iconst (v := -1) hx hb dX8_enter_118 (by decide) ?_
        refine lv_icmp_eq (tgt := 135) hx hb dX8_enter_119 (by decide) (fun c119 => ?_) (fun c119 => ?_)
        · refine lv_iconst (v := -1) hx hb dX8_enter_135 (by decide) ?_
          have hcd : cdEnter pr (nI nW) = 0 := by unfold cdEnter; rw [if_neg k0, if_neg k1]
          have ew : ws.set 12 (am, .inr (9, mF ad (upd z 0 0) wi dm)) = (if cdEnter pr (nI nW) = 0 then (if (mBt (F 20) (F 18) (F 19) (z 11) (z 9) nW 6) = -1 then ws.set 12 (am, .inr (9, mF ad (upd z 0 0) wi dm)) else if mEn (F 20) (F 18) (z 11) (z 9) nW (mBt (F 20) (F 18) (F 19) (z 11) (z 9) nW 6) ≤ pr then (((ws.set 12 (am, .inr (9, mF ad (upd z 0 0) wi dm))).set 20 (ad 20, .inl (cI, 20, .inl (upd (F 20) (z 9).toNatClampNeg (mBt (F 20) (F 18) (F 19) (z 11) (z 9) nW 6))))).set 19 (ad 19, .inl (cI, 48, .inl (upd (F 19) (mBt (F 20) (F 18) (F 19) (z 11) (z 9) nW 6).toNatClampNeg (z 9))))).set 12 (am, .inr (9, mF ad (upd (upd z 0 0) 9 (z 9 + 1)) wi dm)) else ws.set 12 (am, .inr (9, mF ad (upd z 0 0) wi dm))) else ws.set 12 (am, .inr (9, mF ad (upd z 0 (cdEnter pr (nI nW))) wi dm))) := by rw [hcd, if_pos rfl]; subst heqi; simp only [(eq_true c119), ↓reduceIte]
          have hP : va_P G vwCl (ws.set 12 (am, .inr (9, mF ad (upd z 0 0) wi dm))) H := hP
          have hD : va_D A (ws.set 12 (am, .inr (9, mF ad (upd z 0 0) wi dm))) := hD
          rw [ew] at hP hD
          exact W.iret (v := (-1 : Int32)) hx hb hr (fun t ht hW => ⟨⟨(-1 : Int32), (), rfl, (fun _ => by subst heqi; simp only [(eq_true c119), Int32.add_sub_cancel, ↓reduceIte]), by show va_P G vwCl _ t.heap ∧ va_D A _; rw [ht]; exact ⟨hP, hD⟩⟩, hS.F ht⟩) hS.2.2 dX8_enter_136
        · refine lv_aload_n hx hb dX8_enter_122 rfl (lv_at hl 0 rfl) ?_
          refine lv_aload_n hx hb dX8_enter_123 rfl (lv_at hl 0 rfl) ?_
          refine va_get (D := G) (ci := 9) (v := .int (z 9)) (C := RX8) (T := TX8) (N := 39) hx hb hts hiX8 hown hK hP 12 hm rfl 9 (by decide) (hts (.fieldLink RX8 115 "VortexpinModel" "whirls" "I") (List.mem_of_getElem? (i := 2) rfl)) (fun _ h9 => h9) rfl dX8_enter_124 ?_
          refine lv_iload_n hx hb dX8_enter_127 rfl (lv_at hl 2 rfl) ?_
          refine vp_callSi (va_Run.run (va_runV (As := [.int (z 9), .int (mBt (F 20) (F 18) (F 19) (z 11) (z 9) nW i)]) (rest := []) ⟨hx, hb, hml, hown, hts⟩ (metX8_energyAt l G tys htI _ hm hA18 hA20 (nW := nW) hz9 h60nW (z 9) (mBt (F 20) (F 18) (F 19) (z 11) (z 9) nW i) (mBt_ok i hNi c119)) (cwV 2 hts gX8_enter_X8_energyAt rfl rfl rfl (by decide +kernel) ⟨Nat.le_of_ble_eq_true rfl, Nat.le_of_ble_eq_true rfl⟩) ⟨pcR_b, va_recv hK hP (ci := 9) (q0 := 12) rfl hm, pcR_u hP hK⟩ rfl rfl hl.1 rfl (lv_room (Nat.le_of_ble_eq_true rfl)) dX8_enter_128 ⟨Nat.le_of_ble_eq_true rfl, Nat.le_of_ble_eq_true rfl⟩)) (fun r128 h128 => ?_)
          have h128 : r128 = mEn (F 20) (F 18) (z 11) (z 9) nW (mBt (F 20) (F 18) (F 19) (z 11) (z 9) nW i) := h128
          refine lv_iload_n hx hb dX8_enter_131 rfl (lv_at hl 1 rfl) ?_
          refine lv_icmp_le (tgt := 137) hx hb dX8_enter_132 (by decide) (fun c132 => ?_) (fun c132 => ?_)
          · refine lv_aload_n hx hb dX8_enter_137 rfl (lv_at hl 0 rfl) ?_
            refine va_get (D := G) (ci := 9) (v := .ref (ad 20)) (C := RX8) (T := TX8) (N := 39) hx hb hts hiX8 hown hK hP 12 hm rfl 10 (by decide) (hts (.fieldLink RX8 31 "VortexpinModel" "cellOf" "[I") (List.mem_of_getElem? (i := 4) rfl)) (fun _ h9 => h9) rfl dX8_enter_138 ?_
            refine lv_aload_n hx hb dX8_enter_141 rfl (lv_at hl 0 rfl) ?_
            refine va_get (D := G) (ci := 9) (v := .int (z 9)) (C := RX8) (T := TX8) (N := 39) hx hb hts hiX8 hown hK hP 12 hm rfl 9 (by decide) (hts (.fieldLink RX8 115 "VortexpinModel" "whirls" "I") (List.mem_of_getElem? (i := 2) rfl)) (fun _ h9 => h9) rfl dX8_enter_142 ?_
            refine lv_iload_n hx hb dX8_enter_145 rfl (lv_at hl 2 rfl) ?_
            refine va_iast hx hb hK hP hD hS 20 0 hA20 htI (by rw [hz9]; exact n_in h60nW (by decide) k1) dX8_enter_146 (fun H locs hP hD hS => ?_)
            have hm := va_gs (k := 20) (e := (ad 20, .inl (cI, 20, .inl (upd (F 20) (z 9).toNatClampNeg (mBt (F 20) (F 18) (F 19) (z 11) (z 9) nW i))))) (by decide) hm
            have hA18 := va_gs (k := 20) (e := (ad 20, .inl (cI, 20, .inl (upd (F 20) (z 9).toNatClampNeg (mBt (F 20) (F 18) (F 19) (z 11) (z 9) nW i))))) (by decide) hA18
            have hA19 := va_gs (k := 20) (e := (ad 20, .inl (cI, 20, .inl (upd (F 20) (z 9).toNatClampNeg (mBt (F 20) (F 18) (F 19) (z 11) (z 9) nW i))))) (by decide) hA19
            have hA20 := va_ge (e := (ad 20, .inl (cI, 20, .inl (upd (F 20) (z 9).toNatClampNeg (mBt (F 20) (F 18) (F 19) (z 11) (z 9) nW i))))) hA20
            refine lv_aload_n hx hb dX8_enter_147 rfl (lv_at hl 0 rfl) ?_
            refine va_get (D := G) (ci := 9) (v := .ref (ad 19)) (C := RX8) (T := TX8) (N := 39) hx hb hts hiX8 hown hK hP 12 hm rfl 8 (by decide) (hts (.fieldLink RX8 28 "VortexpinModel" "whirlIn" "[I") (List.mem_of_getElem? (i := 3) rfl)) (fun _ h9 => h9) rfl dX8_enter_148 ?_
            refine lv_iload_n hx hb dX8_enter_151 rfl (lv_at hl 2 rfl) ?_
            refine lv_aload_n hx hb dX8_enter_152 rfl (lv_at hl 0 rfl) ?_
            refine va_get (D := G) (ci := 9) (v := .int (z 9)) (C := RX8) (T := TX8) (N := 39) hx hb hts hiX8 hown hK hP 12 hm rfl 9 (by decide) (hts (.fieldLink RX8 115 "VortexpinModel" "whirls" "I") (List.mem_of_getElem? (i := 2) rfl)) (fun _ h9 => h9) rfl dX8_enter_153 ?_
            refine va_iast hx hb hK hP hD hS 19 0 hA19 htI (vp_uK (mBt_ok i hNi c119)) dX8_enter_156 (fun H locs hP hD hS => ?_)
            have hm := va_gs (k := 19) (e := (ad 19, .inl (cI, 48, .inl (upd (F 19) (mBt (F 20) (F 18) (F 19) (z 11) (z 9) nW i).toNatClampNeg (z 9))))) (by decide) hm
            have hA18 := va_gs (k := 19) (e := (ad 19, .inl (cI, 48, .inl (upd (F 19) (mBt (F 20) (F 18) (F 19) (z 11) (z 9) nW i).toNatClampNeg (z 9))))) (by decide) hA18
            have hA20 := va_gs (k := 19) (e := (ad 19, .inl (cI, 48, .inl (upd (F 19) (mBt (F 20) (F 18) (F 19) (z 11) (z 9) nW i).toNatClampNeg (z 9))))) (by decide) hA20
            have hA19 := va_ge (e := (ad 19, .inl (cI, 48, .inl (upd (F 19) (mBt (F 20) (F 18) (F 19) (z 11) (z 9) nW i).toNatClampNeg (z 9))))) hA19
            refine lv_aload_n hx hb dX8_enter_157 rfl (lv_at hl 0 rfl) ?_
            refine lv_dup hx hb dX8_enter_158 rfl ?_
            refine va_get (D := G) (ci := 9) (v := .int (z 9)) (C := RX8) (T := TX8) (N := 39) hx hb hts hiX8 hown hK hP 12 hm rfl 9 (by decide) (hts (.fieldLink RX8 115 "VortexpinModel" "whirls" "I") (List.mem_of_getElem? (i := 2) rfl)) (fun _ h9 => h9) rfl dX8_enter_159 ?_
            refine lv_iconst (v := 1) hx hb dX8_enter_162 (by decide) ?_
            refine lv_iadd hx hb dX8_enter_163 ?_
            refine va_put (D := G) (ci := 9) (v := .int ((z 9) + (1 : Int32))) (ty := .int) (C := RX8) (T := TX8) (N := 39) hx hb hts hiX8 tyX8 tyX8_ok nmX8 hown hK hP hD hS 12 hm rfl 9 (by decide) (hts (.fieldLink RX8 115 "VortexpinModel" "whirls" "I") (List.mem_of_getElem? (i := 2) rfl)) (fun _ h9 => h9) rfl (by decide +kernel) (rfl) (rfl) (Nat.le_of_ble_eq_true rfl) dX8_enter_164 (fun H locs hP hD hS => ?_)
            have hP : va_P G vwCl ((((ws.set 12 (am, .inr (9, mF ad (upd z 0 0) wi dm))).set 20 (ad 20, .inl (cI, 20, .inl (upd (F 20) (z 9).toNatClampNeg (mBt (F 20) (F 18) (F 19) (z 11) (z 9) nW i))))).set 19 (ad 19, .inl (cI, 48, .inl (upd (F 19) (mBt (F 20) (F 18) (F 19) (z 11) (z 9) nW i).toNatClampNeg (z 9))))).set 12 (am, .inr (9, mF ad (upd (upd z 0 (0 : Int32)) 9 ((z 9) + (1 : Int32))) wi dm))) H := hP
            have hD : va_D A ((((ws.set 12 (am, .inr (9, mF ad (upd z 0 0) wi dm))).set 20 (ad 20, .inl (cI, 20, .inl (upd (F 20) (z 9).toNatClampNeg (mBt (F 20) (F 18) (F 19) (z 11) (z 9) nW i))))).set 19 (ad 19, .inl (cI, 48, .inl (upd (F 19) (mBt (F 20) (F 18) (F 19) (z 11) (z 9) nW i).toNatClampNeg (z 9))))).set 12 (am, .inr (9, mF ad (upd (upd z 0 (0 : Int32)) 9 ((z 9) + (1 : Int32))) wi dm))) := hD
            have hA18 := va_gs (k := 12) (e := (am, .inr (9, mF ad (upd (upd z 0 (0 : Int32)) 9 ((z 9) + (1 : Int32))) wi dm))) (by decide) hA18
            have hA19 := va_gs (k := 12) (e := (am, .inr (9, mF ad (upd (upd z 0 (0 : Int32)) 9 ((z 9) + (1 : Int32))) wi dm))) (by decide) hA19
            have hA20 := va_gs (k := 12) (e := (am, .inr (9, mF ad (upd (upd z 0 (0 : Int32)) 9 ((z 9) + (1 : Int32))) wi dm))) (by decide) hA20
            have hm := va_ge (e := (am, .inr (9, mF ad (upd (upd z 0 (0 : Int32)) 9 ((z 9) + (1 : Int32))) wi dm))) hm
            refine lv_aload_n hx hb dX8_enter_167 rfl (lv_at hl 0 rfl) ?_
            refine va_get (D := G) (ci := 9) (v := .int ((z 9) + (1 : Int32))) (C := RX8) (T := TX8) (N := 39) hx hb hts hiX8 hown hK hP 12 hm rfl 9 (by decide) (hts (.fieldLink RX8 115 "VortexpinModel" "whirls" "I") (List.mem_of_getElem? (i := 2) rfl)) (fun _ h9 => h9) rfl dX8_enter_168 ?_
            refine lv_iconst (v := 1) hx hb dX8_enter_171 (by decide) ?_
            refine lv_isub hx hb dX8_enter_172 ?_
            have hcd : cdEnter pr (nI nW) = 0 := by unfold cdEnter; rw [if_neg k0, if_neg k1]
            have ew : (((ws.set 12 (am, .inr (9, mF ad (upd z 0 0) wi dm))).set 20 (ad 20, .inl (cI, 20, .inl (upd (F 20) (z 9).toNatClampNeg (mBt (F 20) (F 18) (F 19) (z 11) (z 9) nW i))))).set 19 (ad 19, .inl (cI, 48, .inl (upd (F 19) (mBt (F 20) (F 18) (F 19) (z 11) (z 9) nW i).toNatClampNeg (z 9))))).set 12 (am, .inr (9, mF ad (upd (upd z 0 (0 : Int32)) 9 ((z 9) + (1 : Int32))) wi dm)) = (if cdEnter pr (nI nW) = 0 then (if (mBt (F 20) (F 18) (F 19) (z 11) (z 9) nW 6) = -1 then ws.set 12 (am, .inr (9, mF ad (upd z 0 0) wi dm)) else if mEn (F 20) (F 18) (z 11) (z 9) nW (mBt (F 20) (F 18) (F 19) (z 11) (z 9) nW 6) ≤ pr then (((ws.set 12 (am, .inr (9, mF ad (upd z 0 0) wi dm))).set 20 (ad 20, .inl (cI, 20, .inl (upd (F 20) (z 9).toNatClampNeg (mBt (F 20) (F 18) (F 19) (z 11) (z 9) nW 6))))).set 19 (ad 19, .inl (cI, 48, .inl (upd (F 19) (mBt (F 20) (F 18) (F 19) (z 11) (z 9) nW 6).toNatClampNeg (z 9))))).set 12 (am, .inr (9, mF ad (upd (upd z 0 0) 9 (z 9 + 1)) wi dm)) else ws.set 12 (am, .inr (9, mF ad (upd z 0 0) wi dm))) else ws.set 12 (am, .inr (9, mF ad (upd z 0 (cdEnter pr (nI nW))) wi dm))) := by rw [hcd, if_pos rfl]; subst heqi; subst h128; simp only [c119, c132, ↓reduceIte]
            have hP : va_P G vwCl ((((ws.set 12 (am, .inr (9, mF ad (upd z 0 0) wi dm))).set 20 (ad 20, .inl (cI, 20, .inl (upd (F 20) (z 9).toNatClampNeg (mBt (F 20) (F 18) (F 19) (z 11) (z 9) nW i))))).set 19 (ad 19, .inl (cI, 48, .inl (upd (F 19) (mBt (F 20) (F 18) (F 19) (z 11) (z 9) nW i).toNatClampNeg (z 9))))).set 12 (am, .inr (9, mF ad (upd (upd z 0 (0 : Int32)) 9 ((z 9) + (1 : Int32))) wi dm))) H := hP
            have hD : va_D A ((((ws.set 12 (am, .inr (9, mF ad (upd z 0 0) wi dm))).set 20 (ad 20, .inl (cI, 20, .inl (upd (F 20) (z 9).toNatClampNeg (mBt (F 20) (F 18) (F 19) (z 11) (z 9) nW i))))).set 19 (ad 19, .inl (cI, 48, .inl (upd (F 19) (mBt (F 20) (F 18) (F 19) (z 11) (z 9) nW i).toNatClampNeg (z 9))))).set 12 (am, .inr (9, mF ad (upd (upd z 0 (0 : Int32)) 9 ((z 9) + (1 : Int32))) wi dm))) := hD
            rw [ew] at hP hD
            exact W.iret (v := ((z 9) + (1 : Int32)) - (1 : Int32)) hx hb hr (fun t ht hW => ⟨⟨((z 9) + (1 : Int32)) - (1 : Int32), (), rfl, (fun _ => by subst heqi; subst h128; simp only [c119, c132, Int32.add_sub_cancel, ↓reduceIte]), by show va_P G vwCl _ t.heap ∧ va_D A _; rw [ht]; exact ⟨hP, hD⟩⟩, hS.F ht⟩) hS.2.2 dX8_enter_173
          · refine lv_iconst (v := -1) hx hb dX8_enter_135 (by decide) ?_
            have hcd : cdEnter pr (nI nW) = 0 := by unfold cdEnter; rw [if_neg k0, if_neg k1]
            have ew : ws.set 12 (am, .inr (9, mF ad (upd z 0 0) wi dm)) = (if cdEnter pr (nI nW) = 0 then (if (mBt (F 20) (F 18) (F 19) (z 11) (z 9) nW 6) = -1 then ws.set 12 (am, .inr (9, mF ad (upd z 0 0) wi dm)) else if mEn (F 20) (F 18) (z 11) (z 9) nW (mBt (F 20) (F 18) (F 19) (z 11) (z 9) nW 6) ≤ pr then (((ws.set 12 (am, .inr (9, mF ad (upd z 0 0) wi dm))).set 20 (ad 20, .inl (cI, 20, .inl (upd (F 20) (z 9).toNatClampNeg (mBt (F 20) (F 18) (F 19) (z 11) (z 9) nW 6))))).set 19 (ad 19, .inl (cI, 48, .inl (upd (F 19) (mBt (F 20) (F 18) (F 19) (z 11) (z 9) nW 6).toNatClampNeg (z 9))))).set 12 (am, .inr (9, mF ad (upd (upd z 0 0) 9 (z 9 + 1)) wi dm)) else ws.set 12 (am, .inr (9, mF ad (upd z 0 0) wi dm))) else ws.set 12 (am, .inr (9, mF ad (upd z 0 (cdEnter pr (nI nW))) wi dm))) := by rw [hcd, if_pos rfl]; subst heqi; subst h128; simp only [c119, c132, ↓reduceIte]
            have hP : va_P G vwCl (ws.set 12 (am, .inr (9, mF ad (upd z 0 0) wi dm))) H := hP
            have hD : va_D A (ws.set 12 (am, .inr (9, mF ad (upd z 0 0) wi dm))) := hD
            rw [ew] at hP hD
            exact W.iret (v := (-1 : Int32)) hx hb hr (fun t ht hW => ⟨⟨(-1 : Int32), (), rfl, (fun _ => by subst heqi; subst h128; simp only [c119, c132, Int32.add_sub_cancel, ↓reduceIte]), by show va_P G vwCl _ t.heap ∧ va_D A _; rw [ht]; exact ⟨hP, hD⟩⟩, hS.F ht⟩) hS.2.2 dX8_enter_136
      · have hlti : i < 6 := Nat.lt_of_not_le (mt (nI_leI (by omega) (by omega)).mpr c45)
        refine lv_bipush (v := 8) hx hb dX8_enter_48 (by decide) ?_
        refine lv_iload_n hx hb dX8_enter_50 rfl (lv_at hl 3 rfl) ?_
        refine lv_imul hx hb dX8_enter_51 ?_
        refine re_i (y := nI (8 * i)) (pk_mul 8 i) ?_
        refine lv_istore (lv' := [(4, .int (nI (8 * i))), (0, .ref am), (1, .int pr), (2, .int (mBt (F 20) (F 18) (F 19) (z 11) (z 9) nW i)), (3, .int (nI i))]) hx hb dX8_enter_52 hl (by decide) rfl (fun ls hl => ?_)
        refine lv_aload_n hx hb dX8_enter_54 rfl (lv_at hl 1 rfl) ?_
        refine va_get (D := G) (ci := 9) (v := .ref (ad 19)) (C := RX8) (T := TX8) (N := 39) hx hb hts hiX8 hown hK hP 12 hm rfl 8 (by decide) (hts (.fieldLink RX8 28 "VortexpinModel" "whirlIn" "[I") (List.mem_of_getElem? (i := 3) rfl)) (fun _ h9 => h9) rfl dX8_enter_55 ?_
        refine lv_iload hx hb dX8_enter_58 (lv_at hl 0 rfl) ?_
        refine va_iald hx hb hK hP 19 0 hA19 htI (vp_in_nI (show 8 * i < 48 by omega) (by omega)) dX8_enter_60 ?_
        refine rd_i (j := 8 * i) (nI_clamp (by omega)) ?_
        refine lv_iconst (v := -1) hx hb dX8_enter_61 (by decide) ?_
        refine lv_icmp_ne (tgt := 96) hx hb dX8_enter_62 (by decide) (fun c62 => ?_) (fun c62 => ?_)
        · refine lv_iconst (v := 0) hx hb dX8_enter_96 (by decide) ?_
          refine lv_istore (lv' := [(5, .int (0 : Int32)), (4, .int (nI (8 * i))), (0, .ref am), (1, .int pr), (2, .int (mBt (F 20) (F 18) (F 19) (z 11) (z 9) nW i)), (3, .int (nI i))]) hx hb dX8_enter_97 hl (by decide) rfl (fun ls hl => ?_)
          refine lv_iload hx hb dX8_enter_99 (lv_at hl 0 rfl) ?_
          refine lv_if_eq (tgt := 109) hx hb dX8_enter_101 (by decide) (fun c101 => ?_) (fun c101 => absurd (by decide) c101)
          refine lv_iload_n hx hb dX8_enter_109 rfl (lv_at hl 4 rfl) ?_
          refine lv_istore_n (lv' := [(2, .int (mBt (F 20) (F 18) (F 19) (z 11) (z 9) nW i)), (5, .int (0 : Int32)), (4, .int (nI (8 * i))), (0, .ref am), (1, .int pr), (3, .int (nI i))]) hx hb dX8_enter_110 rfl hl (by decide) rfl (fun ls hl => ?_)
          refine lv_iinc (v := nI (i + 1)) (lv' := [(3, .int (nI (i + 1))), (2, .int (mBt (F 20) (F 18) (F 19) (z 11) (z 9) nW i)), (5, .int (0 : Int32)), (4, .int (nI (8 * i))), (0, .ref am), (1, .int pr)]) hx hb dX8_enter_111 hl (k := 5) rfl (nI_1 i) (by decide) rfl (fun ls hl => ?_)
          refine lv_goto (tgt := 42) hx hb dX8_enter_114 (by decide) ?_
          have ea2 : (mBt (F 20) (F 18) (F 19) (z 11) (z 9) nW i) = (mBt (F 20) (F 18) (F 19) (z 11) (z 9) nW (i + 1)) := by subst h11; simp only [mBt, c14, c29, c45, c62, (eq_true c101), ↓reduceIte, not_true_eq_false, not_false_eq_true]
          rw [ea2] at hl
          have ew : ws.set 12 (am, .inr (9, mF ad (upd z 0 0) wi dm)) = ws.set 12 (am, .inr (9, mF ad (upd z 0 0) wi dm)) := rfl
          have hP : va_P G vwCl (ws.set 12 (am, .inr (9, mF ad (upd z 0 0) wi dm))) H := hP
          have hD : va_D A (ws.set 12 (am, .inr (9, mF ad (upd z 0 0) wi dm))) := hD
          rw [ew] at hP hD
          exact ihi H _ ls hlti (trivial) hP hD hS (lv_sub hl [4, 5, 1, 0] rfl)
        · refine lv_iload_n hx hb dX8_enter_65 rfl (lv_at hl 3 rfl) ?_
          refine lv_iconst (v := -1) hx hb dX8_enter_66 (by decide) ?_
          refine lv_icmp_eq (tgt := 92) hx hb dX8_enter_67 (by decide) (fun c67 => ?_) (fun c67 => ?_)
          · refine lv_iconst (v := 1) hx hb dX8_enter_92 (by decide) ?_
            refine lv_goto (tgt := 97) hx hb dX8_enter_93 (by decide) ?_
            refine lv_istore (lv' := [(5, .int (1 : Int32)), (4, .int (nI (8 * i))), (0, .ref am), (1, .int pr), (2, .int (mBt (F 20) (F 18) (F 19) (z 11) (z 9) nW i)), (3, .int (nI i))]) hx hb dX8_enter_97 hl (by decide) rfl (fun ls hl => ?_)
            refine lv_iload hx hb dX8_enter_99 (lv_at hl 0 rfl) ?_
            refine lv_if_eq (tgt := 109) hx hb dX8_enter_101 (by decide) (fun c101 => absurd c101 (by decide)) (fun c101 => ?_)
            refine lv_iload hx hb dX8_enter_104 (lv_at hl 1 rfl) ?_
            refine lv_goto (tgt := 110) hx hb dX8_enter_106 (by decide) ?_
            refine lv_istore_n (lv' := [(2, .int (nI (8 * i))), (5, .int (1 : Int32)), (4, .int (nI (8 * i))), (0, .ref am), (1, .int pr), (3, .int (nI i))]) hx hb dX8_enter_110 rfl hl (by decide) rfl (fun ls hl => ?_)
            refine lv_iinc (v := nI (i + 1)) (lv' := [(3, .int (nI (i + 1))), (2, .int (nI (8 * i))), (5, .int (1 : Int32)), (4, .int (nI (8 * i))), (0, .ref am), (1, .int pr)]) hx hb dX8_enter_111 hl (k := 5) rfl (nI_1 i) (by decide) rfl (fun ls hl => ?_)
            refine lv_goto (tgt := 42) hx hb dX8_enter_114 (by decide) ?_
            have ea2 : nI (8 * i) = (mBt (F 20) (F 18) (F 19) (z 11) (z 9) nW (i + 1)) := by subst h11; simp only [mBt, c14, c29, c45, (eq_true c62), (eq_true c67), c101, ↓reduceIte, not_true_eq_false, not_false_eq_true]
            rw [ea2] at hl
            have ew : ws.set 12 (am, .inr (9, mF ad (upd z 0 0) wi dm)) = ws.set 12 (am, .inr (9, mF ad (upd z 0 0) wi dm)) := rfl
            have hP : va_P G vwCl (ws.set 12 (am, .inr (9, mF ad (upd z 0 0) wi dm))) H := hP
            have hD : va_D A (ws.set 12 (am, .inr (9, mF ad (upd z 0 0) wi dm))) := hD
            rw [ew] at hP hD
            exact ihi H _ ls hlti (trivial) hP hD hS (lv_sub hl [4, 5, 1, 0] rfl)
          · refine lv_aload_n hx hb dX8_enter_70 rfl (lv_at hl 1 rfl) ?_
            refine lv_aload_n hx hb dX8_enter_71 rfl (lv_at hl 1 rfl) ?_
            refine va_get (D := G) (ci := 9) (v := .int (z 9)) (C := RX8) (T := TX8) (N := 39) hx hb hts hiX8 hown hK hP 12 hm rfl 9 (by decide) (hts (.fieldLink RX8 115 "VortexpinModel" "whirls" "I") (List.mem_of_getElem? (i := 2) rfl)) (fun _ h9 => h9) rfl dX8_enter_72 ?_
            refine lv_iload hx hb dX8_enter_75 (lv_at hl 0 rfl) ?_
            refine vp_callSi (va_Run.run (va_runV (As := [.int (z 9), .int (nI (8 * i))]) (rest := []) ⟨hx, hb, hml, hown, hts⟩ (metX8_energyAt l G tys htI _ hm hA18 hA20 (nW := nW) hz9 h60nW (z 9) (nI (8 * i)) (uK_of (n := 48) (by omega) (by decide))) (cwV 2 hts gX8_enter_X8_energyAt rfl rfl rfl (by decide +kernel) ⟨Nat.le_of_ble_eq_true rfl, Nat.le_of_ble_eq_true rfl⟩) ⟨pcR_b, va_recv hK hP (ci := 9) (q0 := 12) rfl hm, pcR_u hP hK⟩ rfl rfl hl.1 rfl (lv_room (Nat.le_of_ble_eq_true rfl)) dX8_enter_77 ⟨Nat.le_of_ble_eq_true rfl, Nat.le_of_ble_eq_true rfl⟩)) (fun r77 h77 => ?_)
            have h77 : r77 = mEn (F 20) (F 18) (z 11) (z 9) nW (nI (8 * i)) := h77
            refine lv_aload_n hx hb dX8_enter_80 rfl (lv_at hl 1 rfl) ?_
            refine lv_aload_n hx hb dX8_enter_81 rfl (lv_at hl 1 rfl) ?_
            refine va_get (D := G) (ci := 9) (v := .int (z 9)) (C := RX8) (T := TX8) (N := 39) hx hb hts hiX8 hown hK hP 12 hm rfl 9 (by decide) (hts (.fieldLink RX8 115 "VortexpinModel" "whirls" "I") (List.mem_of_getElem? (i := 2) rfl)) (fun _ h9 => h9) rfl dX8_enter_82 ?_
            refine lv_iload_n hx hb dX8_enter_85 rfl (lv_at hl 3 rfl) ?_
            refine vp_callSi (va_Run.run (va_runV (As := [.int (z 9), .int (mBt (F 20) (F 18) (F 19) (z 11) (z 9) nW i)]) (rest := [.int r77]) ⟨hx, hb, hml, hown, hts⟩ (metX8_energyAt l G tys htI _ hm hA18 hA20 (nW := nW) hz9 h60nW (z 9) (mBt (F 20) (F 18) (F 19) (z 11) (z 9) nW i) (mBt_ok i hNi c67)) (cwV 2 hts gX8_enter_X8_energyAt rfl rfl rfl (by decide +kernel) ⟨Nat.le_of_ble_eq_true rfl, Nat.le_of_ble_eq_true rfl⟩) ⟨pcR_b, va_recv hK hP (ci := 9) (q0 := 12) rfl hm, pcR_u hP hK⟩ rfl rfl hl.1 rfl (lv_room (Nat.le_of_ble_eq_true rfl)) dX8_enter_86 ⟨Nat.le_of_ble_eq_true rfl, Nat.le_of_ble_eq_true rfl⟩)) (fun r86 h86 => ?_)
            have h86 : r86 = mEn (F 20) (F 18) (z 11) (z 9) nW (mBt (F 20) (F 18) (F 19) (z 11) (z 9) nW i) := h86
            refine lv_icmp_ge (tgt := 96) hx hb dX8_enter_89 (by decide) (fun c89 => ?_) (fun c89 => ?_)
            · refine lv_iconst (v := 0) hx hb dX8_enter_96 (by decide) ?_
              refine lv_istore (lv' := [(5, .int (0 : Int32)), (4, .int (nI (8 * i))), (0, .ref am), (1, .int pr), (2, .int (mBt (F 20) (F 18) (F 19) (z 11) (z 9) nW i)), (3, .int (nI i))]) hx hb dX8_enter_97 hl (by decide) rfl (fun ls hl => ?_)
              refine lv_iload hx hb dX8_enter_99 (lv_at hl 0 rfl) ?_
              refine lv_if_eq (tgt := 109) hx hb dX8_enter_101 (by decide) (fun c101 => ?_) (fun c101 => absurd (by decide) c101)
              refine lv_iload_n hx hb dX8_enter_109 rfl (lv_at hl 4 rfl) ?_
              refine lv_istore_n (lv' := [(2, .int (mBt (F 20) (F 18) (F 19) (z 11) (z 9) nW i)), (5, .int (0 : Int32)), (4, .int (nI (8 * i))), (0, .ref am), (1, .int pr), (3, .int (nI i))]) hx hb dX8_enter_110 rfl hl (by decide) rfl (fun ls hl => ?_)
              refine lv_iinc (v := nI (i + 1)) (lv' := [(3, .int (nI (i + 1))), (2, .int (mBt (F 20) (F 18) (F 19) (z 11) (z 9) nW i)), (5, .int (0 : Int32)), (4, .int (nI (8 * i))), (0, .ref am), (1, .int pr)]) hx hb dX8_enter_111 hl (k := 5) rfl (nI_1 i) (by decide) rfl (fun ls hl => ?_)
              refine lv_goto (tgt := 42) hx hb dX8_enter_114 (by decide) ?_
              have ea2 : (mBt (F 20) (F 18) (F 19) (z 11) (z 9) nW i) = (mBt (F 20) (F 18) (F 19) (z 11) (z 9) nW (i + 1)) := by subst h11; subst h77; subst h86; simp only [mBt, c14, c29, c45, (eq_true c62), c67, c89, (eq_true c101), ↓reduceIte, not_true_eq_false, not_false_eq_true]
              rw [ea2] at hl
              have ew : ws.set 12 (am, .inr (9, mF ad (upd z 0 0) wi dm)) = ws.set 12 (am, .inr (9, mF ad (upd z 0 0) wi dm)) := rfl
              have hP : va_P G vwCl (ws.set 12 (am, .inr (9, mF ad (upd z 0 0) wi dm))) H := hP
              have hD : va_D A (ws.set 12 (am, .inr (9, mF ad (upd z 0 0) wi dm))) := hD
              rw [ew] at hP hD
              exact ihi H _ ls hlti (trivial) hP hD hS (lv_sub hl [4, 5, 1, 0] rfl)
            · refine lv_iconst (v := 1) hx hb dX8_enter_92 (by decide) ?_
              refine lv_goto (tgt := 97) hx hb dX8_enter_93 (by decide) ?_
              refine lv_istore (lv' := [(5, .int (1 : Int32)), (4, .int (nI (8 * i))), (0, .ref am), (1, .int pr), (2, .int (mBt (F 20) (F 18) (F 19) (z 11) (z 9) nW i)), (3, .int (nI i))]) hx hb dX8_enter_97 hl (by decide) rfl (fun ls hl => ?_)
              refine lv_iload hx hb dX8_enter_99 (lv_at hl 0 rfl) ?_
              refine lv_if_eq (tgt := 109) hx hb dX8_enter_101 (by decide) (fun c101 => absurd c101 (by decide)) (fun c101 => ?_)
              refine lv_iload hx hb dX8_enter_104 (lv_at hl 1 rfl) ?_
              refine lv_goto (tgt := 110) hx hb dX8_enter_106 (by decide) ?_
              refine lv_istore_n (lv' := [(2, .int (nI (8 * i))), (5, .int (1 : Int32)), (4, .int (nI (8 * i))), (0, .ref am), (1, .int pr), (3, .int (nI i))]) hx hb dX8_enter_110 rfl hl (by decide) rfl (fun ls hl => ?_)
              refine lv_iinc (v := nI (i + 1)) (lv' := [(3, .int (nI (i + 1))), (2, .int (nI (8 * i))), (5, .int (1 : Int32)), (4, .int (nI (8 * i))), (0, .ref am), (1, .int pr)]) hx hb dX8_enter_111 hl (k := 5) rfl (nI_1 i) (by decide) rfl (fun ls hl => ?_)
              refine lv_goto (tgt := 42) hx hb dX8_enter_114 (by decide) ?_
              have ea2 : nI (8 * i) = (mBt (F 20) (F 18) (F 19) (z 11) (z 9) nW (i + 1)) := by subst h11; subst h77; subst h86; simp only [mBt, c14, c29, c45, (eq_true c62), c67, c89, c101, ↓reduceIte, not_true_eq_false, not_false_eq_true]
              rw [ea2] at hl
              have ew : ws.set 12 (am, .inr (9, mF ad (upd z 0 0) wi dm)) = ws.set 12 (am, .inr (9, mF ad (upd z 0 0) wi dm)) := rfl
              have hP : va_P G vwCl (ws.set 12 (am, .inr (9, mF ad (upd z 0 0) wi dm))) H := hP
              have hD : va_D A (ws.set 12 (am, .inr (9, mF ad (upd z 0 0) wi dm))) := hD
              rw [ew] at hP hD
              exact ihi H _ ls hlti (trivial) hP hD hS (lv_sub hl [4, 5, 1, 0] rfl)
    · have hbd : (20 : Int32) ≤ nI nW := (full_n h60nW (by decide)).mp (by rw [← hz9]; exact c29)
      skip
      refine lv_aload_n hx hb dX8_enter_32 rfl (lv_at hl 0 rfl) ?_
      refine lv_iconst (v := 2) hx hb dX8_enter_33 (by decide) ?_
      refine va_calli (va_runV (As := [.int (2 : Int32)]) (rest := []) ⟨hx, hb, hml, hown, hts⟩ (metX8_stop l G tys _ hm (2 : Int32)) (cwV 1 hts gX8_enter_X8_stop rfl rfl rfl (by decide +kernel) ⟨Nat.le_of_ble_eq_true rfl, Nat.le_of_ble_eq_true rfl⟩) ⟨pcM_b, va_recv hK hP (ci := 9) (q0 := 12) rfl hm, pcM_u hP hK hD hS hA⟩ rfl rfl hl.1 rfl (lv_room (Nat.le_of_ble_eq_true rfl)) dX8_enter_34 ⟨Nat.le_of_ble_eq_true rfl, Nat.le_of_ble_eq_true rfl⟩) hS (fun q _ h => h) (fun q h => h) (fun r34 u t H locs ht hvm h34 hB hsz hk1 hS => ?_)
      rw [ht] at hB
      have hB := hB.1
      have hD := hD.set (e := .inr (9, mF ad (upd (upd z 0 (0 : Int32)) 0 (2 : Int32)) wi dm)) hm
      have hA18 := va_gs (k := 12) (e := (am, .inr (9, mF ad (upd (upd z 0 (0 : Int32)) 0 (2 : Int32)) wi dm))) (by decide) hA18
      have hA19 := va_gs (k := 12) (e := (am, .inr (9, mF ad (upd (upd z 0 (0 : Int32)) 0 (2 : Int32)) wi dm))) (by decide) hA19
      have hA20 := va_gs (k := 12) (e := (am, .inr (9, mF ad (upd (upd z 0 (0 : Int32)) 0 (2 : Int32)) wi dm))) (by decide) hA20
      have hm := va_ge (e := (am, .inr (9, mF ad (upd (upd z 0 (0 : Int32)) 0 (2 : Int32)) wi dm))) hm
      have hP : va_P G vwCl (((ws).set 12 (am, .inr (9, mF ad (upd z 0 (0 : Int32)) wi dm))).set 12 (am, .inr (9, mF ad (upd (upd z 0 (0 : Int32)) 0 (2 : Int32)) wi dm))) H := hB
      have hD : va_D A (((ws).set 12 (am, .inr (9, mF ad (upd z 0 (0 : Int32)) wi dm))).set 12 (am, .inr (9, mF ad (upd (upd z 0 (0 : Int32)) 0 (2 : Int32)) wi dm))) := hD
      have hcd : cdEnter pr (nI nW) = 2 := by unfold cdEnter; rw [if_neg k0, if_pos hbd]
      have ew : ((ws).set 12 (am, .inr (9, mF ad (upd z 0 (0 : Int32)) wi dm))).set 12 (am, .inr (9, mF ad (upd (upd z 0 (0 : Int32)) 0 (2 : Int32)) wi dm)) = (if cdEnter pr (nI nW) = 0 then (if (mBt (F 20) (F 18) (F 19) (z 11) (z 9) nW 6) = -1 then ws.set 12 (am, .inr (9, mF ad (upd z 0 0) wi dm)) else if mEn (F 20) (F 18) (z 11) (z 9) nW (mBt (F 20) (F 18) (F 19) (z 11) (z 9) nW 6) ≤ pr then (((ws.set 12 (am, .inr (9, mF ad (upd z 0 0) wi dm))).set 20 (ad 20, .inl (cI, 20, .inl (upd (F 20) (z 9).toNatClampNeg (mBt (F 20) (F 18) (F 19) (z 11) (z 9) nW 6))))).set 19 (ad 19, .inl (cI, 48, .inl (upd (F 19) (mBt (F 20) (F 18) (F 19) (z 11) (z 9) nW 6).toNatClampNeg (z 9))))).set 12 (am, .inr (9, mF ad (upd (upd z 0 0) 9 (z 9 + 1)) wi dm)) else ws.set 12 (am, .inr (9, mF ad (upd z 0 0) wi dm))) else ws.set 12 (am, .inr (9, mF ad (upd z 0 (cdEnter pr (nI nW))) wi dm))) := by rw [hcd, if_neg (by decide), List.set_set, upd_upd]
      have hP : va_P G vwCl (((ws).set 12 (am, .inr (9, mF ad (upd z 0 (0 : Int32)) wi dm))).set 12 (am, .inr (9, mF ad (upd (upd z 0 (0 : Int32)) 0 (2 : Int32)) wi dm))) H := hP
      have hD : va_D A (((ws).set 12 (am, .inr (9, mF ad (upd z 0 (0 : Int32)) wi dm))).set 12 (am, .inr (9, mF ad (upd (upd z 0 (0 : Int32)) 0 (2 : Int32)) wi dm))) := hD
      rw [ew] at hP hD
      exact W.iret (v := r34) hx hb hr (fun t ht hW => ⟨⟨r34, (), rfl, (fun h0 => absurd (hcd.symm.trans h0) (by decide)), by show va_P G vwCl _ t.heap ∧ va_D A _; rw [ht]; exact ⟨hP, hD⟩⟩, hS.F ht⟩) hS.2.2 dX8_enter_37
  · have hbd : oR pr (-100) 1000 := mIn_0.mp (h11.symm.trans c14)
    skip
    refine lv_aload_n hx hb dX8_enter_17 rfl (lv_at hl 0 rfl) ?_
    refine lv_iconst (v := 1) hx hb dX8_enter_18 (by decide) ?_
    refine va_calli (va_runV (As := [.int (1 : Int32)]) (rest := []) ⟨hx, hb, hml, hown, hts⟩ (metX8_stop l G tys _ hm (1 : Int32)) (cwV 1 hts gX8_enter_X8_stop rfl rfl rfl (by decide +kernel) ⟨Nat.le_of_ble_eq_true rfl, Nat.le_of_ble_eq_true rfl⟩) ⟨pcM_b, va_recv hK hP (ci := 9) (q0 := 12) rfl hm, pcM_u hP hK hD hS hA⟩ rfl rfl hl.1 rfl (lv_room (Nat.le_of_ble_eq_true rfl)) dX8_enter_19 ⟨Nat.le_of_ble_eq_true rfl, Nat.le_of_ble_eq_true rfl⟩) hS (fun q _ h => h) (fun q h => h) (fun r19 u t H locs ht hvm h19 hB hsz hk1 hS => ?_)
    rw [ht] at hB
    have hB := hB.1
    have hD := hD.set (e := .inr (9, mF ad (upd (upd z 0 (0 : Int32)) 0 (1 : Int32)) wi dm)) hm
    have hA18 := va_gs (k := 12) (e := (am, .inr (9, mF ad (upd (upd z 0 (0 : Int32)) 0 (1 : Int32)) wi dm))) (by decide) hA18
    have hA19 := va_gs (k := 12) (e := (am, .inr (9, mF ad (upd (upd z 0 (0 : Int32)) 0 (1 : Int32)) wi dm))) (by decide) hA19
    have hA20 := va_gs (k := 12) (e := (am, .inr (9, mF ad (upd (upd z 0 (0 : Int32)) 0 (1 : Int32)) wi dm))) (by decide) hA20
    have hm := va_ge (e := (am, .inr (9, mF ad (upd (upd z 0 (0 : Int32)) 0 (1 : Int32)) wi dm))) hm
    have hP : va_P G vwCl (((ws).set 12 (am, .inr (9, mF ad (upd z 0 (0 : Int32)) wi dm))).set 12 (am, .inr (9, mF ad (upd (upd z 0 (0 : Int32)) 0 (1 : Int32)) wi dm))) H := hB
    have hD : va_D A (((ws).set 12 (am, .inr (9, mF ad (upd z 0 (0 : Int32)) wi dm))).set 12 (am, .inr (9, mF ad (upd (upd z 0 (0 : Int32)) 0 (1 : Int32)) wi dm))) := hD
    have hcd : cdEnter pr (nI nW) = 1 := by unfold cdEnter; rw [if_pos hbd]
    have ew : ((ws).set 12 (am, .inr (9, mF ad (upd z 0 (0 : Int32)) wi dm))).set 12 (am, .inr (9, mF ad (upd (upd z 0 (0 : Int32)) 0 (1 : Int32)) wi dm)) = (if cdEnter pr (nI nW) = 0 then (if (mBt (F 20) (F 18) (F 19) (z 11) (z 9) nW 6) = -1 then ws.set 12 (am, .inr (9, mF ad (upd z 0 0) wi dm)) else if mEn (F 20) (F 18) (z 11) (z 9) nW (mBt (F 20) (F 18) (F 19) (z 11) (z 9) nW 6) ≤ pr then (((ws.set 12 (am, .inr (9, mF ad (upd z 0 0) wi dm))).set 20 (ad 20, .inl (cI, 20, .inl (upd (F 20) (z 9).toNatClampNeg (mBt (F 20) (F 18) (F 19) (z 11) (z 9) nW 6))))).set 19 (ad 19, .inl (cI, 48, .inl (upd (F 19) (mBt (F 20) (F 18) (F 19) (z 11) (z 9) nW 6).toNatClampNeg (z 9))))).set 12 (am, .inr (9, mF ad (upd (upd z 0 0) 9 (z 9 + 1)) wi dm)) else ws.set 12 (am, .inr (9, mF ad (upd z 0 0) wi dm))) else ws.set 12 (am, .inr (9, mF ad (upd z 0 (cdEnter pr (nI nW))) wi dm))) := by rw [hcd, if_neg (by decide), List.set_set, upd_upd]
    have hP : va_P G vwCl (((ws).set 12 (am, .inr (9, mF ad (upd z 0 (0 : Int32)) wi dm))).set 12 (am, .inr (9, mF ad (upd (upd z 0 (0 : Int32)) 0 (1 : Int32)) wi dm))) H := hP
    have hD : va_D A (((ws).set 12 (am, .inr (9, mF ad (upd z 0 (0 : Int32)) wi dm))).set 12 (am, .inr (9, mF ad (upd (upd z 0 (0 : Int32)) 0 (1 : Int32)) wi dm))) := hD
    rw [ew] at hP hD
    exact W.iret (v := r19) hx hb hr (fun t ht hW => ⟨⟨r19, (), rfl, (fun h0 => absurd (hcd.symm.trans h0) (by decide)), by show va_P G vwCl _ t.heap ∧ va_D A _; rw [ht]; exact ⟨hP, hD⟩⟩, hS.F ht⟩) hS.2.2 dX8_enter_22
